abbrev DE (c : ByteArray) (p : Nat) (i : Jvm.ClassFile.Instr) (n : Nat) : Prop := decode c p = .ok (i, n)
def dn (c : ByteArray) (p : Nat) : List Nat := (c.data.toList.map UInt8.toNat).drop p
theorem dn_w {c : ByteArray} {L : List Nat} {p q : Nat} (h : dn c p = L) (j : Nat) (e : p + j = q) : dn c q = L.drop j := by
  subst e; subst h; unfold dn; rw [List.drop_drop]
theorem dn_s {c : ByteArray} {p n : Nat} {r : List Nat} (h : dn c p = n :: r) : dn c (p + 1) = r := dn_w h 1 rfl
theorem dn_u1 {c : ByteArray} {p n : Nat} {r : List Nat} (h : dn c p = n :: r) : (Jvm.ClassFile.Reader.u1 : Jvm.ClassFile.Decoder Nat).runAt c p = .ok (n, p + 1) := by
  have hl : p < c.data.toList.length := by
    have e := congrArg List.length h
    unfold dn at e
    rw [List.length_drop, List.length_map, List.length_cons] at e
    omega
  have hs : p < c.size := hl
  have hb : (c[p]'hs).toNat = n := by
    have e : (c.data.toList.map UInt8.toNat)[p]? = some n := by
      have e2 := congrArg List.head? h
      unfold dn at e2
      rw [List.head?_drop] at e2; exact e2
    rw [List.getElem?_map, List.getElem?_eq_getElem hl] at e
    exact Option.some.inj e
  have e : (Jvm.ClassFile.Reader.u1 : Jvm.ClassFile.Decoder Nat).runAt c p = (if h : p < c.size then (do set (p + 1); pure (c[p]'h).toNat : Jvm.ClassFile.Decoder Nat) else throw (Jvm.ClassFile.HasTruncated.truncated p)) c p := rfl
  rw [e, dif_pos hs, ← hb]; rfl
theorem dn_bind {α β : Type} {m : Jvm.ClassFile.Decoder α} {F : α → Jvm.ClassFile.Decoder β} {c : ByteArray} {p q : Nat} {x : α} (h : m.runAt c p = .ok (x, q)) : (m >>= F).runAt c p = (F x).runAt c q := by
  show Except.bind (m.runAt c p) (fun a => (F a.1).runAt c a.2) = _
  rw [h]; rfl
theorem dn_map {α β : Type} {m : Jvm.ClassFile.Decoder α} {f : α → β} {c : ByteArray} {p q : Nat} {x : α} (h : m.runAt c p = .ok (x, q)) : (f <$> m).runAt c p = .ok (f x, q) := by
  show Except.bind (m.runAt c p) (fun a => Except.ok (f a.1, a.2)) = _
  rw [h]; rfl
theorem dn_k {c : ByteArray} {p n : Nat} {i : Jvm.ClassFile.Instr} (h : (Jvm.ClassFile.Decoder.instr p).runAt c p = .ok (i, p + n)) : decode c p = .ok (i, n) := by
  unfold decode; rw [h]
  show Except.ok (i, p + n - p) = _
  rw [Nat.add_sub_cancel_left]
theorem dn_s1 {c : ByteArray} {p n : Nat} {r : List Nat} (h : dn c p = n :: r) : (Jvm.ClassFile.Reader.s1 : Jvm.ClassFile.Decoder Int).runAt c p = .ok (Jvm.ClassFile.Reader.signed 8 n, p + 1) := dn_map (dn_u1 h)
theorem dn_u2 {c : ByteArray} {p a b : Nat} {r : List Nat} (h : dn c p = a :: b :: r) : (Jvm.ClassFile.Reader.u2 : Jvm.ClassFile.Decoder Nat).runAt c p = .ok (a * 256 + b, p + 2) := by
  unfold Jvm.ClassFile.Reader.u2
  refine (dn_bind (dn_u1 h)).trans ?_
  refine (dn_bind (dn_u1 (dn_s h))).trans ?_
  rfl
theorem dn_s2 {c : ByteArray} {p a b : Nat} {r : List Nat} (h : dn c p = a :: b :: r) : (Jvm.ClassFile.Reader.s2 : Jvm.ClassFile.Decoder Int).runAt c p = .ok (Jvm.ClassFile.Reader.signed 16 (a * 256 + b), p + 2) := dn_map (dn_u2 h)

theorem dop_2 {c : ByteArray} {p : Nat} {r : List Nat} (h : dn c p = 2 :: r) : DE c p (.iconst (-1)) 1 := by
  refine dn_k ?_
  unfold Jvm.ClassFile.Decoder.instr
  refine (dn_bind (dn_u1 h)).trans ?_
  rfl
theorem dop_3 {c : ByteArray} {p : Nat} {r : List Nat} (h : dn c p = 3 :: r) : DE c p (.iconst 0) 1 := by
  refine dn_k ?_
  unfold Jvm.ClassFile.Decoder.instr
  refine (dn_bind (dn_u1 h)).trans ?_
  rfl
theorem dop_4 {c : ByteArray} {p : Nat} {r : List Nat} (h : dn c p = 4 :: r) : DE c p (.iconst 1) 1 := by
  refine dn_k ?_
  unfold Jvm.ClassFile.Decoder.instr
  refine (dn_bind (dn_u1 h)).trans ?_
  rfl
theorem dop_5 {c : ByteArray} {p : Nat} {r : List Nat} (h : dn c p = 5 :: r) : DE c p (.iconst 2) 1 := by
  refine dn_k ?_
  unfold Jvm.ClassFile.Decoder.instr
  refine (dn_bind (dn_u1 h)).trans ?_
  rfl
theorem dop_6 {c : ByteArray} {p : Nat} {r : List Nat} (h : dn c p = 6 :: r) : DE c p (.iconst 3) 1 := by
  refine dn_k ?_
  unfold Jvm.ClassFile.Decoder.instr
  refine (dn_bind (dn_u1 h)).trans ?_
  rfl
theorem dop_7 {c : ByteArray} {p : Nat} {r : List Nat} (h : dn c p = 7 :: r) : DE c p (.iconst 4) 1 := by
  refine dn_k ?_
  unfold Jvm.ClassFile.Decoder.instr
  refine (dn_bind (dn_u1 h)).trans ?_
  rfl
theorem dop_8 {c : ByteArray} {p : Nat} {r : List Nat} (h : dn c p = 8 :: r) : DE c p (.iconst 5) 1 := by
  refine dn_k ?_
  unfold Jvm.ClassFile.Decoder.instr
  refine (dn_bind (dn_u1 h)).trans ?_
  rfl
theorem dop_9 {c : ByteArray} {p : Nat} {r : List Nat} (h : dn c p = 9 :: r) : DE c p (.lconst 0) 1 := by
  refine dn_k ?_
  unfold Jvm.ClassFile.Decoder.instr
  refine (dn_bind (dn_u1 h)).trans ?_
  rfl
theorem dop_16 {c : ByteArray} {p a : Nat} {r : List Nat} {z : Int} (h : dn c p = 16 :: a :: r) (e : Jvm.ClassFile.Reader.signed 8 a = z) : DE c p (.bipush z) 2 := by
  refine dn_k ?_
  unfold Jvm.ClassFile.Decoder.instr
  refine (dn_bind (dn_u1 h)).trans ?_
  subst e
  refine (dn_bind (dn_s1 (dn_s h))).trans ?_
  rfl
theorem dop_17 {c : ByteArray} {p a b : Nat} {r : List Nat} {z : Int} (h : dn c p = 17 :: a :: b :: r) (e : Jvm.ClassFile.Reader.signed 16 (a * 256 + b) = z) : DE c p (.sipush z) 3 := by
  refine dn_k ?_
  unfold Jvm.ClassFile.Decoder.instr
  refine (dn_bind (dn_u1 h)).trans ?_
  subst e
  refine (dn_bind (dn_s2 (dn_s h))).trans ?_
  rfl
theorem dop_18 {c : ByteArray} {p a : Nat} {r : List Nat} (h : dn c p = 18 :: a :: r) : DE c p (.ldc a) 2 := by
  refine dn_k ?_
  unfold Jvm.ClassFile.Decoder.instr
  refine (dn_bind (dn_u1 h)).trans ?_
  refine (dn_bind (dn_u1 (dn_s h))).trans ?_
  rfl
theorem dop_19 {c : ByteArray} {p a b n : Nat} {r : List Nat} (h : dn c p = 19 :: a :: b :: r) (e : a * 256 + b = n) : DE c p (.ldc_w n) 3 := by
  refine dn_k ?_
  unfold Jvm.ClassFile.Decoder.instr
  refine (dn_bind (dn_u1 h)).trans ?_
  subst e
  refine (dn_bind (dn_u2 (dn_s h))).trans ?_
  rfl
theorem dop_20 {c : ByteArray} {p a b n : Nat} {r : List Nat} (h : dn c p = 20 :: a :: b :: r) (e : a * 256 + b = n) : DE c p (.ldc2_w n) 3 := by
  refine dn_k ?_
  unfold Jvm.ClassFile.Decoder.instr
  refine (dn_bind (dn_u1 h)).trans ?_
  subst e
  refine (dn_bind (dn_u2 (dn_s h))).trans ?_
  rfl
theorem dop_21 {c : ByteArray} {p a : Nat} {r : List Nat} (h : dn c p = 21 :: a :: r) : DE c p (.iload a) 2 := by
  refine dn_k ?_
  unfold Jvm.ClassFile.Decoder.instr
  refine (dn_bind (dn_u1 h)).trans ?_
  refine (dn_bind (dn_u1 (dn_s h))).trans ?_
  rfl
theorem dop_25 {c : ByteArray} {p a : Nat} {r : List Nat} (h : dn c p = 25 :: a :: r) : DE c p (.aload a) 2 := by
  refine dn_k ?_
  unfold Jvm.ClassFile.Decoder.instr
  refine (dn_bind (dn_u1 h)).trans ?_
  refine (dn_bind (dn_u1 (dn_s h))).trans ?_
  rfl
theorem dop_26 {c : ByteArray} {p : Nat} {r : List Nat} (h : dn c p = 26 :: r) : DE c p (.iload_n 0) 1 := by
  refine dn_k ?_
  unfold Jvm.ClassFile.Decoder.instr
  refine (dn_bind (dn_u1 h)).trans ?_
  rfl
theorem dop_27 {c : ByteArray} {p : Nat} {r : List Nat} (h : dn c p = 27 :: r) : DE c p (.iload_n 1) 1 := by
  refine dn_k ?_
  unfold Jvm.ClassFile.Decoder.instr
  refine (dn_bind (dn_u1 h)).trans ?_
  rfl
theorem dop_28 {c : ByteArray} {p : Nat} {r : List Nat} (h : dn c p = 28 :: r) : DE c p (.iload_n 2) 1 := by
  refine dn_k ?_
  unfold Jvm.ClassFile.Decoder.instr
  refine (dn_bind (dn_u1 h)).trans ?_
  rfl
theorem dop_29 {c : ByteArray} {p : Nat} {r : List Nat} (h : dn c p = 29 :: r) : DE c p (.iload_n 3) 1 := by
  refine dn_k ?_
  unfold Jvm.ClassFile.Decoder.instr
  refine (dn_bind (dn_u1 h)).trans ?_
  rfl
theorem dop_31 {c : ByteArray} {p : Nat} {r : List Nat} (h : dn c p = 31 :: r) : DE c p (.lload_n 1) 1 := by
  refine dn_k ?_
  unfold Jvm.ClassFile.Decoder.instr
  refine (dn_bind (dn_u1 h)).trans ?_
  rfl
theorem dop_42 {c : ByteArray} {p : Nat} {r : List Nat} (h : dn c p = 42 :: r) : DE c p (.aload_n 0) 1 := by
  refine dn_k ?_
  unfold Jvm.ClassFile.Decoder.instr
  refine (dn_bind (dn_u1 h)).trans ?_
  rfl
theorem dop_43 {c : ByteArray} {p : Nat} {r : List Nat} (h : dn c p = 43 :: r) : DE c p (.aload_n 1) 1 := by
  refine dn_k ?_
  unfold Jvm.ClassFile.Decoder.instr
  refine (dn_bind (dn_u1 h)).trans ?_
  rfl
theorem dop_44 {c : ByteArray} {p : Nat} {r : List Nat} (h : dn c p = 44 :: r) : DE c p (.aload_n 2) 1 := by
  refine dn_k ?_
  unfold Jvm.ClassFile.Decoder.instr
  refine (dn_bind (dn_u1 h)).trans ?_
  rfl
theorem dop_45 {c : ByteArray} {p : Nat} {r : List Nat} (h : dn c p = 45 :: r) : DE c p (.aload_n 3) 1 := by
  refine dn_k ?_
  unfold Jvm.ClassFile.Decoder.instr
  refine (dn_bind (dn_u1 h)).trans ?_
  rfl
theorem dop_46 {c : ByteArray} {p : Nat} {r : List Nat} (h : dn c p = 46 :: r) : DE c p (.iaload) 1 := by
  refine dn_k ?_
  unfold Jvm.ClassFile.Decoder.instr
  refine (dn_bind (dn_u1 h)).trans ?_
  rfl
theorem dop_47 {c : ByteArray} {p : Nat} {r : List Nat} (h : dn c p = 47 :: r) : DE c p (.laload) 1 := by
  refine dn_k ?_
  unfold Jvm.ClassFile.Decoder.instr
  refine (dn_bind (dn_u1 h)).trans ?_
  rfl
theorem dop_50 {c : ByteArray} {p : Nat} {r : List Nat} (h : dn c p = 50 :: r) : DE c p (.aaload) 1 := by
  refine dn_k ?_
  unfold Jvm.ClassFile.Decoder.instr
  refine (dn_bind (dn_u1 h)).trans ?_
  rfl
theorem dop_51 {c : ByteArray} {p : Nat} {r : List Nat} (h : dn c p = 51 :: r) : DE c p (.baload) 1 := by
  refine dn_k ?_
  unfold Jvm.ClassFile.Decoder.instr
  refine (dn_bind (dn_u1 h)).trans ?_
  rfl
theorem dop_54 {c : ByteArray} {p a : Nat} {r : List Nat} (h : dn c p = 54 :: a :: r) : DE c p (.istore a) 2 := by
  refine dn_k ?_
  unfold Jvm.ClassFile.Decoder.instr
  refine (dn_bind (dn_u1 h)).trans ?_
  refine (dn_bind (dn_u1 (dn_s h))).trans ?_
  rfl
theorem dop_58 {c : ByteArray} {p a : Nat} {r : List Nat} (h : dn c p = 58 :: a :: r) : DE c p (.astore a) 2 := by
  refine dn_k ?_
  unfold Jvm.ClassFile.Decoder.instr
  refine (dn_bind (dn_u1 h)).trans ?_
  refine (dn_bind (dn_u1 (dn_s h))).trans ?_
  rfl
theorem dop_59 {c : ByteArray} {p : Nat} {r : List Nat} (h : dn c p = 59 :: r) : DE c p (.istore_n 0) 1 := by
  refine dn_k ?_
  unfold Jvm.ClassFile.Decoder.instr
  refine (dn_bind (dn_u1 h)).trans ?_
  rfl
theorem dop_60 {c : ByteArray} {p : Nat} {r : List Nat} (h : dn c p = 60 :: r) : DE c p (.istore_n 1) 1 := by
  refine dn_k ?_
  unfold Jvm.ClassFile.Decoder.instr
  refine (dn_bind (dn_u1 h)).trans ?_
  rfl
theorem dop_61 {c : ByteArray} {p : Nat} {r : List Nat} (h : dn c p = 61 :: r) : DE c p (.istore_n 2) 1 := by
  refine dn_k ?_
  unfold Jvm.ClassFile.Decoder.instr
  refine (dn_bind (dn_u1 h)).trans ?_
  rfl
theorem dop_62 {c : ByteArray} {p : Nat} {r : List Nat} (h : dn c p = 62 :: r) : DE c p (.istore_n 3) 1 := by
  refine dn_k ?_
  unfold Jvm.ClassFile.Decoder.instr
  refine (dn_bind (dn_u1 h)).trans ?_
  rfl
theorem dop_78 {c : ByteArray} {p : Nat} {r : List Nat} (h : dn c p = 78 :: r) : DE c p (.astore_n 3) 1 := by
  refine dn_k ?_
  unfold Jvm.ClassFile.Decoder.instr
  refine (dn_bind (dn_u1 h)).trans ?_
  rfl
theorem dop_79 {c : ByteArray} {p : Nat} {r : List Nat} (h : dn c p = 79 :: r) : DE c p (.iastore) 1 := by
  refine dn_k ?_
  unfold Jvm.ClassFile.Decoder.instr
  refine (dn_bind (dn_u1 h)).trans ?_
  rfl
theorem dop_80 {c : ByteArray} {p : Nat} {r : List Nat} (h : dn c p = 80 :: r) : DE c p (.lastore) 1 := by
  refine dn_k ?_
  unfold Jvm.ClassFile.Decoder.instr
  refine (dn_bind (dn_u1 h)).trans ?_
  rfl
theorem dop_83 {c : ByteArray} {p : Nat} {r : List Nat} (h : dn c p = 83 :: r) : DE c p (.aastore) 1 := by
  refine dn_k ?_
  unfold Jvm.ClassFile.Decoder.instr
  refine (dn_bind (dn_u1 h)).trans ?_
  rfl
theorem dop_84 {c : ByteArray} {p : Nat} {r : List Nat} (h : dn c p = 84 :: r) : DE c p (.bastore) 1 := by
  refine dn_k ?_
  unfold Jvm.ClassFile.Decoder.instr
  refine (dn_bind (dn_u1 h)).trans ?_
  rfl
theorem dop_87 {c : ByteArray} {p : Nat} {r : List Nat} (h : dn c p = 87 :: r) : DE c p (.pop) 1 := by
  refine dn_k ?_
  unfold Jvm.ClassFile.Decoder.instr
  refine (dn_bind (dn_u1 h)).trans ?_
  rfl
theorem dop_89 {c : ByteArray} {p : Nat} {r : List Nat} (h : dn c p = 89 :: r) : DE c p (.dup) 1 := by
  refine dn_k ?_
  unfold Jvm.ClassFile.Decoder.instr
  refine (dn_bind (dn_u1 h)).trans ?_
  rfl
theorem dop_92 {c : ByteArray} {p : Nat} {r : List Nat} (h : dn c p = 92 :: r) : DE c p (.dup2) 1 := by
  refine dn_k ?_
  unfold Jvm.ClassFile.Decoder.instr
  refine (dn_bind (dn_u1 h)).trans ?_
  rfl
theorem dop_96 {c : ByteArray} {p : Nat} {r : List Nat} (h : dn c p = 96 :: r) : DE c p (.iadd) 1 := by
  refine dn_k ?_
  unfold Jvm.ClassFile.Decoder.instr
  refine (dn_bind (dn_u1 h)).trans ?_
  rfl
theorem dop_97 {c : ByteArray} {p : Nat} {r : List Nat} (h : dn c p = 97 :: r) : DE c p (.ladd) 1 := by
  refine dn_k ?_
  unfold Jvm.ClassFile.Decoder.instr
  refine (dn_bind (dn_u1 h)).trans ?_
  rfl
theorem dop_100 {c : ByteArray} {p : Nat} {r : List Nat} (h : dn c p = 100 :: r) : DE c p (.isub) 1 := by
  refine dn_k ?_
  unfold Jvm.ClassFile.Decoder.instr
  refine (dn_bind (dn_u1 h)).trans ?_
  rfl
theorem dop_101 {c : ByteArray} {p : Nat} {r : List Nat} (h : dn c p = 101 :: r) : DE c p (.lsub) 1 := by
  refine dn_k ?_
  unfold Jvm.ClassFile.Decoder.instr
  refine (dn_bind (dn_u1 h)).trans ?_
  rfl
theorem dop_104 {c : ByteArray} {p : Nat} {r : List Nat} (h : dn c p = 104 :: r) : DE c p (.imul) 1 := by
  refine dn_k ?_
  unfold Jvm.ClassFile.Decoder.instr
  refine (dn_bind (dn_u1 h)).trans ?_
  rfl
theorem dop_105 {c : ByteArray} {p : Nat} {r : List Nat} (h : dn c p = 105 :: r) : DE c p (.lmul) 1 := by
  refine dn_k ?_
  unfold Jvm.ClassFile.Decoder.instr
  refine (dn_bind (dn_u1 h)).trans ?_
  rfl
theorem dop_108 {c : ByteArray} {p : Nat} {r : List Nat} (h : dn c p = 108 :: r) : DE c p (.idiv) 1 := by
  refine dn_k ?_
  unfold Jvm.ClassFile.Decoder.instr
  refine (dn_bind (dn_u1 h)).trans ?_
  rfl
theorem dop_112 {c : ByteArray} {p : Nat} {r : List Nat} (h : dn c p = 112 :: r) : DE c p (.irem) 1 := by
  refine dn_k ?_
  unfold Jvm.ClassFile.Decoder.instr
  refine (dn_bind (dn_u1 h)).trans ?_
  rfl
theorem dop_120 {c : ByteArray} {p : Nat} {r : List Nat} (h : dn c p = 120 :: r) : DE c p (.ishl) 1 := by
  refine dn_k ?_
  unfold Jvm.ClassFile.Decoder.instr
  refine (dn_bind (dn_u1 h)).trans ?_
  rfl
theorem dop_122 {c : ByteArray} {p : Nat} {r : List Nat} (h : dn c p = 122 :: r) : DE c p (.ishr) 1 := by
  refine dn_k ?_
  unfold Jvm.ClassFile.Decoder.instr
  refine (dn_bind (dn_u1 h)).trans ?_
  rfl
theorem dop_123 {c : ByteArray} {p : Nat} {r : List Nat} (h : dn c p = 123 :: r) : DE c p (.lshr) 1 := by
  refine dn_k ?_
  unfold Jvm.ClassFile.Decoder.instr
  refine (dn_bind (dn_u1 h)).trans ?_
  rfl
theorem dop_124 {c : ByteArray} {p : Nat} {r : List Nat} (h : dn c p = 124 :: r) : DE c p (.iushr) 1 := by
  refine dn_k ?_
  unfold Jvm.ClassFile.Decoder.instr
  refine (dn_bind (dn_u1 h)).trans ?_
  rfl
theorem dop_126 {c : ByteArray} {p : Nat} {r : List Nat} (h : dn c p = 126 :: r) : DE c p (.iand) 1 := by
  refine dn_k ?_
  unfold Jvm.ClassFile.Decoder.instr
  refine (dn_bind (dn_u1 h)).trans ?_
  rfl
theorem dop_127 {c : ByteArray} {p : Nat} {r : List Nat} (h : dn c p = 127 :: r) : DE c p (.land) 1 := by
  refine dn_k ?_
  unfold Jvm.ClassFile.Decoder.instr
  refine (dn_bind (dn_u1 h)).trans ?_
  rfl
theorem dop_128 {c : ByteArray} {p : Nat} {r : List Nat} (h : dn c p = 128 :: r) : DE c p (.ior) 1 := by
  refine dn_k ?_
  unfold Jvm.ClassFile.Decoder.instr
  refine (dn_bind (dn_u1 h)).trans ?_
  rfl
theorem dop_130 {c : ByteArray} {p : Nat} {r : List Nat} (h : dn c p = 130 :: r) : DE c p (.ixor) 1 := by
  refine dn_k ?_
  unfold Jvm.ClassFile.Decoder.instr
  refine (dn_bind (dn_u1 h)).trans ?_
  rfl
theorem dop_132 {c : ByteArray} {p a b : Nat} {r : List Nat} {z : Int} (h : dn c p = 132 :: a :: b :: r) (e : Jvm.ClassFile.Reader.signed 8 b = z) : DE c p (.iinc a z) 3 := by
  refine dn_k ?_
  unfold Jvm.ClassFile.Decoder.instr
  refine (dn_bind (dn_u1 h)).trans ?_
  subst e
  refine (dn_bind (dn_u1 (dn_s h))).trans ?_
  refine (dn_bind (dn_s1 (dn_s (dn_s h)))).trans ?_
  rfl
theorem dop_133 {c : ByteArray} {p : Nat} {r : List Nat} (h : dn c p = 133 :: r) : DE c p (.i2l) 1 := by
  refine dn_k ?_
  unfold Jvm.ClassFile.Decoder.instr
  refine (dn_bind (dn_u1 h)).trans ?_
  rfl
theorem dop_136 {c : ByteArray} {p : Nat} {r : List Nat} (h : dn c p = 136 :: r) : DE c p (.l2i) 1 := by
  refine dn_k ?_
  unfold Jvm.ClassFile.Decoder.instr
  refine (dn_bind (dn_u1 h)).trans ?_
  rfl
theorem dop_145 {c : ByteArray} {p : Nat} {r : List Nat} (h : dn c p = 145 :: r) : DE c p (.i2b) 1 := by
  refine dn_k ?_
  unfold Jvm.ClassFile.Decoder.instr
  refine (dn_bind (dn_u1 h)).trans ?_
  rfl
theorem dop_146 {c : ByteArray} {p : Nat} {r : List Nat} (h : dn c p = 146 :: r) : DE c p (.i2c) 1 := by
  refine dn_k ?_
  unfold Jvm.ClassFile.Decoder.instr
  refine (dn_bind (dn_u1 h)).trans ?_
  rfl
theorem dop_147 {c : ByteArray} {p : Nat} {r : List Nat} (h : dn c p = 147 :: r) : DE c p (.i2s) 1 := by
  refine dn_k ?_
  unfold Jvm.ClassFile.Decoder.instr
  refine (dn_bind (dn_u1 h)).trans ?_
  rfl
theorem dop_148 {c : ByteArray} {p : Nat} {r : List Nat} (h : dn c p = 148 :: r) : DE c p (.lcmp) 1 := by
  refine dn_k ?_
  unfold Jvm.ClassFile.Decoder.instr
  refine (dn_bind (dn_u1 h)).trans ?_
  rfl
theorem dop_153 {c : ByteArray} {p a b : Nat} {r : List Nat} {z : Int} (h : dn c p = 153 :: a :: b :: r) (e : Jvm.ClassFile.Reader.signed 16 (a * 256 + b) = z) : DE c p (.ifCond .eq z) 3 := by
  refine dn_k ?_
  unfold Jvm.ClassFile.Decoder.instr
  refine (dn_bind (dn_u1 h)).trans ?_
  subst e
  refine (dn_bind (dn_s2 (dn_s h))).trans ?_
  rfl
theorem dop_154 {c : ByteArray} {p a b : Nat} {r : List Nat} {z : Int} (h : dn c p = 154 :: a :: b :: r) (e : Jvm.ClassFile.Reader.signed 16 (a * 256 + b) = z) : DE c p (.ifCond .ne z) 3 := by
  refine dn_k ?_
  unfold Jvm.ClassFile.Decoder.instr
  refine (dn_bind (dn_u1 h)).trans ?_
  subst e
  refine (dn_bind (dn_s2 (dn_s h))).trans ?_
  rfl
theorem dop_155 {c : ByteArray} {p a b : Nat} {r : List Nat} {z : Int} (h : dn c p = 155 :: a :: b :: r) (e : Jvm.ClassFile.Reader.signed 16 (a * 256 + b) = z) : DE c p (.ifCond .lt z) 3 := by
  refine dn_k ?_
  unfold Jvm.ClassFile.Decoder.instr
  refine (dn_bind (dn_u1 h)).trans ?_
  subst e
  refine (dn_bind (dn_s2 (dn_s h))).trans ?_
  rfl
theorem dop_156 {c : ByteArray} {p a b : Nat} {r : List Nat} {z : Int} (h : dn c p = 156 :: a :: b :: r) (e : Jvm.ClassFile.Reader.signed 16 (a * 256 + b) = z) : DE c p (.ifCond .ge z) 3 := by
  refine dn_k ?_
  unfold Jvm.ClassFile.Decoder.instr
  refine (dn_bind (dn_u1 h)).trans ?_
  subst e
  refine (dn_bind (dn_s2 (dn_s h))).trans ?_
  rfl
theorem dop_157 {c : ByteArray} {p a b : Nat} {r : List Nat} {z : Int} (h : dn c p = 157 :: a :: b :: r) (e : Jvm.ClassFile.Reader.signed 16 (a * 256 + b) = z) : DE c p (.ifCond .gt z) 3 := by
  refine dn_k ?_
  unfold Jvm.ClassFile.Decoder.instr
  refine (dn_bind (dn_u1 h)).trans ?_
  subst e
  refine (dn_bind (dn_s2 (dn_s h))).trans ?_
  rfl
theorem dop_158 {c : ByteArray} {p a b : Nat} {r : List Nat} {z : Int} (h : dn c p = 158 :: a :: b :: r) (e : Jvm.ClassFile.Reader.signed 16 (a * 256 + b) = z) : DE c p (.ifCond .le z) 3 := by
  refine dn_k ?_
  unfold Jvm.ClassFile.Decoder.instr
  refine (dn_bind (dn_u1 h)).trans ?_
  subst e
  refine (dn_bind (dn_s2 (dn_s h))).trans ?_
  rfl
theorem dop_159 {c : ByteArray} {p a b : Nat} {r : List Nat} {z : Int} (h : dn c p = 159 :: a :: b :: r) (e : Jvm.ClassFile.Reader.signed 16 (a * 256 + b) = z) : DE c p (.if_icmp .eq z) 3 := by
  refine dn_k ?_
  unfold Jvm.ClassFile.Decoder.instr
  refine (dn_bind (dn_u1 h)).trans ?_
  subst e
  refine (dn_bind (dn_s2 (dn_s h))).trans ?_
  rfl
theorem dop_160 {c : ByteArray} {p a b : Nat} {r : List Nat} {z : Int} (h : dn c p = 160 :: a :: b :: r) (e : Jvm.ClassFile.Reader.signed 16 (a * 256 + b) = z) : DE c p (.if_icmp .ne z) 3 := by
  refine dn_k ?_
  unfold Jvm.ClassFile.Decoder.instr
  refine (dn_bind (dn_u1 h)).trans ?_
  subst e
  refine (dn_bind (dn_s2 (dn_s h))).trans ?_
  rfl
theorem dop_161 {c : ByteArray} {p a b : Nat} {r : List Nat} {z : Int} (h : dn c p = 161 :: a :: b :: r) (e : Jvm.ClassFile.Reader.signed 16 (a * 256 + b) = z) : DE c p (.if_icmp .lt z) 3 := by
  refine dn_k ?_
  unfold Jvm.ClassFile.Decoder.instr
  refine (dn_bind (dn_u1 h)).trans ?_
  subst e
  refine (dn_bind (dn_s2 (dn_s h))).trans ?_
  rfl
theorem dop_162 {c : ByteArray} {p a b : Nat} {r : List Nat} {z : Int} (h : dn c p = 162 :: a :: b :: r) (e : Jvm.ClassFile.Reader.signed 16 (a * 256 + b) = z) : DE c p (.if_icmp .ge z) 3 := by
  refine dn_k ?_
  unfold Jvm.ClassFile.Decoder.instr
  refine (dn_bind (dn_u1 h)).trans ?_
  subst e
  refine (dn_bind (dn_s2 (dn_s h))).trans ?_
  rfl
theorem dop_163 {c : ByteArray} {p a b : Nat} {r : List Nat} {z : Int} (h : dn c p = 163 :: a :: b :: r) (e : Jvm.ClassFile.Reader.signed 16 (a * 256 + b) = z) : DE c p (.if_icmp .gt z) 3 := by
  refine dn_k ?_
  unfold Jvm.ClassFile.Decoder.instr
  refine (dn_bind (dn_u1 h)).trans ?_
  subst e
  refine (dn_bind (dn_s2 (dn_s h))).trans ?_
  rfl
theorem dop_164 {c : ByteArray} {p a b : Nat} {r : List Nat} {z : Int} (h : dn c p = 164 :: a :: b :: r) (e : Jvm.ClassFile.Reader.signed 16 (a * 256 + b) = z) : DE c p (.if_icmp .le z) 3 := by
  refine dn_k ?_
  unfold Jvm.ClassFile.Decoder.instr
  refine (dn_bind (dn_u1 h)).trans ?_
  subst e
  refine (dn_bind (dn_s2 (dn_s h))).trans ?_
  rfl
theorem dop_167 {c : ByteArray} {p a b : Nat} {r : List Nat} {z : Int} (h : dn c p = 167 :: a :: b :: r) (e : Jvm.ClassFile.Reader.signed 16 (a * 256 + b) = z) : DE c p (.goto z) 3 := by
  refine dn_k ?_
  unfold Jvm.ClassFile.Decoder.instr
  refine (dn_bind (dn_u1 h)).trans ?_
  subst e
  refine (dn_bind (dn_s2 (dn_s h))).trans ?_
  rfl
theorem dop_172 {c : ByteArray} {p : Nat} {r : List Nat} (h : dn c p = 172 :: r) : DE c p (.ireturn) 1 := by
  refine dn_k ?_
  unfold Jvm.ClassFile.Decoder.instr
  refine (dn_bind (dn_u1 h)).trans ?_
  rfl
theorem dop_173 {c : ByteArray} {p : Nat} {r : List Nat} (h : dn c p = 173 :: r) : DE c p (.lreturn) 1 := by
  refine dn_k ?_
  unfold Jvm.ClassFile.Decoder.instr
  refine (dn_bind (dn_u1 h)).trans ?_
  rfl
theorem dop_176 {c : ByteArray} {p : Nat} {r : List Nat} (h : dn c p = 176 :: r) : DE c p (.areturn) 1 := by
  refine dn_k ?_
  unfold Jvm.ClassFile.Decoder.instr
  refine (dn_bind (dn_u1 h)).trans ?_
  rfl
theorem dop_177 {c : ByteArray} {p : Nat} {r : List Nat} (h : dn c p = 177 :: r) : DE c p (.return_) 1 := by
  refine dn_k ?_
  unfold Jvm.ClassFile.Decoder.instr
  refine (dn_bind (dn_u1 h)).trans ?_
  rfl
theorem dop_178 {c : ByteArray} {p a b n : Nat} {r : List Nat} (h : dn c p = 178 :: a :: b :: r) (e : a * 256 + b = n) : DE c p (.getstatic n) 3 := by
  refine dn_k ?_
  unfold Jvm.ClassFile.Decoder.instr
  refine (dn_bind (dn_u1 h)).trans ?_
  subst e
  refine (dn_bind (dn_u2 (dn_s h))).trans ?_
  rfl
theorem dop_180 {c : ByteArray} {p a b n : Nat} {r : List Nat} (h : dn c p = 180 :: a :: b :: r) (e : a * 256 + b = n) : DE c p (.getfield n) 3 := by
  refine dn_k ?_
  unfold Jvm.ClassFile.Decoder.instr
  refine (dn_bind (dn_u1 h)).trans ?_
  subst e
  refine (dn_bind (dn_u2 (dn_s h))).trans ?_
  rfl
theorem dop_181 {c : ByteArray} {p a b n : Nat} {r : List Nat} (h : dn c p = 181 :: a :: b :: r) (e : a * 256 + b = n) : DE c p (.putfield n) 3 := by
  refine dn_k ?_
  unfold Jvm.ClassFile.Decoder.instr
  refine (dn_bind (dn_u1 h)).trans ?_
  subst e
  refine (dn_bind (dn_u2 (dn_s h))).trans ?_
  rfl
theorem dop_182 {c : ByteArray} {p a b n : Nat} {r : List Nat} (h : dn c p = 182 :: a :: b :: r) (e : a * 256 + b = n) : DE c p (.invokevirtual n) 3 := by
  refine dn_k ?_
  unfold Jvm.ClassFile.Decoder.instr
  refine (dn_bind (dn_u1 h)).trans ?_
  subst e
  refine (dn_bind (dn_u2 (dn_s h))).trans ?_
  rfl
theorem dop_183 {c : ByteArray} {p a b n : Nat} {r : List Nat} (h : dn c p = 183 :: a :: b :: r) (e : a * 256 + b = n) : DE c p (.invokespecial n) 3 := by
  refine dn_k ?_
  unfold Jvm.ClassFile.Decoder.instr
  refine (dn_bind (dn_u1 h)).trans ?_
  subst e
  refine (dn_bind (dn_u2 (dn_s h))).trans ?_
  rfl
theorem dop_184 {c : ByteArray} {p a b n : Nat} {r : List Nat} (h : dn c p = 184 :: a :: b :: r) (e : a * 256 + b = n) : DE c p (.invokestatic n) 3 := by
  refine dn_k ?_
  unfold Jvm.ClassFile.Decoder.instr
  refine (dn_bind (dn_u1 h)).trans ?_
  subst e
  refine (dn_bind (dn_u2 (dn_s h))).trans ?_
  rfl
theorem dop_187 {c : ByteArray} {p a b n : Nat} {r : List Nat} (h : dn c p = 187 :: a :: b :: r) (e : a * 256 + b = n) : DE c p (.new n) 3 := by
  refine dn_k ?_
  unfold Jvm.ClassFile.Decoder.instr
  refine (dn_bind (dn_u1 h)).trans ?_
  subst e
  refine (dn_bind (dn_u2 (dn_s h))).trans ?_
  rfl
theorem dop_189 {c : ByteArray} {p a b n : Nat} {r : List Nat} (h : dn c p = 189 :: a :: b :: r) (e : a * 256 + b = n) : DE c p (.anewarray n) 3 := by
  refine dn_k ?_
  unfold Jvm.ClassFile.Decoder.instr
  refine (dn_bind (dn_u1 h)).trans ?_
  subst e
  refine (dn_bind (dn_u2 (dn_s h))).trans ?_
  rfl
theorem dop_190 {c : ByteArray} {p : Nat} {r : List Nat} (h : dn c p = 190 :: r) : DE c p (.arraylength) 1 := by
  refine dn_k ?_
  unfold Jvm.ClassFile.Decoder.instr
  refine (dn_bind (dn_u1 h)).trans ?_
  rfl
theorem dop_191 {c : ByteArray} {p : Nat} {r : List Nat} (h : dn c p = 191 :: r) : DE c p (.athrow) 1 := by
  refine dn_k ?_
  unfold Jvm.ClassFile.Decoder.instr
  refine (dn_bind (dn_u1 h)).trans ?_
  rfl
noncomputable def dt0_0 : List Nat := 42 :: 183 :: 0 :: 3 :: 177 :: []
theorem dw0_0 : dn cX0_init 0 = dt0_0 := by decide +kernel
theorem dX0_init_0 : DE cX0_init 0 (.aload_n 0) 1 := dop_42 (dn_w dw0_0 0 rfl)
theorem dX0_init_1 : DE cX0_init 1 (.invokespecial 3) 3 := dop_183 (dn_w dw0_0 1 rfl) rfl
theorem dX0_init_4 : DE cX0_init 4 (.return_) 1 := dop_177 (dn_w dw0_0 4 rfl)
noncomputable def dt1_15 : List Nat := 3 :: 172 :: []
noncomputable def dt1_14 : List Nat := 180 :: 0 :: 33 :: 42 :: 180 :: 0 :: 36 :: 161 :: 0 :: 7 :: 4 :: 167 :: 0 :: 4 :: 3 :: 172 :: dt1_15
noncomputable def dt1_13 : List Nat := 0 :: 27 :: 42 :: 180 :: 0 :: 24 :: 8 :: 161 :: 0 :: 8 :: 21 :: 4 :: 154 :: 0 :: 14 :: 42 :: dt1_14
noncomputable def dt1_12 : List Nat := 167 :: 0 :: 4 :: 3 :: 172 :: 29 :: 154 :: 0 :: 36 :: 42 :: 180 :: 0 :: 9 :: 7 :: 126 :: 154 :: dt1_13
noncomputable def dt1_11 : List Nat := 0 :: 4 :: 3 :: 172 :: 42 :: 180 :: 0 :: 30 :: 157 :: 0 :: 7 :: 29 :: 153 :: 0 :: 7 :: 4 :: dt1_12
noncomputable def dt1_10 : List Nat := 7 :: 4 :: 167 :: 0 :: 4 :: 3 :: 172 :: 42 :: 180 :: 0 :: 30 :: 158 :: 0 :: 7 :: 4 :: 167 :: dt1_11
noncomputable def dt1_9 : List Nat := 0 :: 18 :: 42 :: 180 :: 0 :: 21 :: 42 :: 180 :: 0 :: 24 :: 96 :: 5 :: 112 :: 4 :: 160 :: 0 :: dt1_10
noncomputable def dt1_8 : List Nat := 0 :: 0 :: 0 :: 91 :: 0 :: 0 :: 0 :: 36 :: 0 :: 0 :: 0 :: 74 :: 28 :: 172 :: 28 :: 154 :: dt1_9
noncomputable def dt1_7 : List Nat := 0 :: 0 :: 0 :: 1 :: 0 :: 0 :: 0 :: 5 :: 0 :: 0 :: 0 :: 34 :: 0 :: 0 :: 0 :: 61 :: dt1_8
noncomputable def dt1_6 : List Nat := 167 :: 0 :: 4 :: 3 :: 54 :: 4 :: 42 :: 180 :: 0 :: 27 :: 170 :: 0 :: 0 :: 0 :: 0 :: 134 :: dt1_7
noncomputable def dt1_5 : List Nat := 4 :: 167 :: 0 :: 4 :: 3 :: 62 :: 27 :: 153 :: 0 :: 8 :: 27 :: 7 :: 160 :: 0 :: 7 :: 4 :: dt1_6
noncomputable def dt1_4 : List Nat := 7 :: 4 :: 167 :: 0 :: 4 :: 3 :: 61 :: 42 :: 180 :: 0 :: 9 :: 4 :: 126 :: 153 :: 0 :: 7 :: dt1_5
noncomputable def dt1_3 : List Nat := 0 :: 9 :: 5 :: 126 :: 154 :: 0 :: 13 :: 27 :: 42 :: 180 :: 0 :: 24 :: 8 :: 112 :: 160 :: 0 :: dt1_4
noncomputable def dt1_2 : List Nat := 8 :: 126 :: 153 :: 0 :: 5 :: 3 :: 172 :: 42 :: 180 :: 0 :: 21 :: 8 :: 112 :: 60 :: 42 :: 180 :: dt1_3
noncomputable def dt1_1 : List Nat := 0 :: 5 :: 4 :: 172 :: 42 :: 180 :: 0 :: 18 :: 157 :: 0 :: 13 :: 42 :: 180 :: 0 :: 9 :: 16 :: dt1_2
noncomputable def dt1_0 : List Nat := 42 :: 180 :: 0 :: 9 :: 16 :: 16 :: 126 :: 153 :: 0 :: 13 :: 42 :: 180 :: 0 :: 15 :: 8 :: 164 :: dt1_1
theorem dw1_0 : dn cX0_isSo 0 = dt1_0 := by decide +kernel
theorem dw1_1 : dn cX0_isSo 16 = dt1_1 := dn_w dw1_0 16 rfl
theorem dw1_2 : dn cX0_isSo 32 = dt1_2 := dn_w dw1_1 16 rfl
theorem dw1_3 : dn cX0_isSo 48 = dt1_3 := dn_w dw1_2 16 rfl
theorem dw1_4 : dn cX0_isSo 64 = dt1_4 := dn_w dw1_3 16 rfl
theorem dw1_5 : dn cX0_isSo 80 = dt1_5 := dn_w dw1_4 16 rfl
theorem dw1_6 : dn cX0_isSo 96 = dt1_6 := dn_w dw1_5 16 rfl
theorem dw1_7 : dn cX0_isSo 112 = dt1_7 := dn_w dw1_6 16 rfl
theorem dw1_8 : dn cX0_isSo 128 = dt1_8 := dn_w dw1_7 16 rfl
theorem dw1_9 : dn cX0_isSo 144 = dt1_9 := dn_w dw1_8 16 rfl
theorem dw1_10 : dn cX0_isSo 160 = dt1_10 := dn_w dw1_9 16 rfl
theorem dw1_11 : dn cX0_isSo 176 = dt1_11 := dn_w dw1_10 16 rfl
theorem dw1_12 : dn cX0_isSo 192 = dt1_12 := dn_w dw1_11 16 rfl
theorem dw1_13 : dn cX0_isSo 208 = dt1_13 := dn_w dw1_12 16 rfl
theorem dw1_14 : dn cX0_isSo 224 = dt1_14 := dn_w dw1_13 16 rfl
theorem dw1_15 : dn cX0_isSo 240 = dt1_15 := dn_w dw1_14 16 rfl
theorem dX0_isSo_0 : DE cX0_isSo 0 (.aload_n 0) 1 := dop_42 (dn_w dw1_0 0 rfl)
theorem dX0_isSo_1 : DE cX0_isSo 1 (.getfield 9) 3 := dop_180 (dn_w dw1_0 1 rfl) rfl
theorem dX0_isSo_4 : DE cX0_isSo 4 (.bipush 16) 2 := dop_16 (dn_w dw1_0 4 rfl) rfl
theorem dX0_isSo_6 : DE cX0_isSo 6 (.iand) 1 := dop_126 (dn_w dw1_0 6 rfl)
theorem dX0_isSo_7 : DE cX0_isSo 7 (.ifCond .eq 13) 3 := dop_153 (dn_w dw1_0 7 rfl) rfl
theorem dX0_isSo_10 : DE cX0_isSo 10 (.aload_n 0) 1 := dop_42 (dn_w dw1_0 10 rfl)
theorem dX0_isSo_11 : DE cX0_isSo 11 (.getfield 15) 3 := dop_180 (dn_w dw1_0 11 rfl) rfl
theorem dX0_isSo_14 : DE cX0_isSo 14 (.iconst 5) 1 := dop_8 (dn_w dw1_0 14 rfl)
theorem dX0_isSo_15 : DE cX0_isSo 15 (.if_icmp .le 5) 3 := dop_164 (dn_w dw1_0 15 rfl) rfl
theorem dX0_isSo_18 : DE cX0_isSo 18 (.iconst 1) 1 := dop_4 (dn_w dw1_1 2 rfl)
theorem dX0_isSo_19 : DE cX0_isSo 19 (.ireturn) 1 := dop_172 (dn_w dw1_1 3 rfl)
theorem dX0_isSo_20 : DE cX0_isSo 20 (.aload_n 0) 1 := dop_42 (dn_w dw1_1 4 rfl)
theorem dX0_isSo_21 : DE cX0_isSo 21 (.getfield 18) 3 := dop_180 (dn_w dw1_1 5 rfl) rfl
theorem dX0_isSo_24 : DE cX0_isSo 24 (.ifCond .gt 13) 3 := dop_157 (dn_w dw1_1 8 rfl) rfl
theorem dX0_isSo_27 : DE cX0_isSo 27 (.aload_n 0) 1 := dop_42 (dn_w dw1_1 11 rfl)
theorem dX0_isSo_28 : DE cX0_isSo 28 (.getfield 9) 3 := dop_180 (dn_w dw1_1 12 rfl) rfl
theorem dX0_isSo_31 : DE cX0_isSo 31 (.bipush 8) 2 := dop_16 (dn_w dw1_1 15 rfl) rfl
theorem dX0_isSo_33 : DE cX0_isSo 33 (.iand) 1 := dop_126 (dn_w dw1_2 1 rfl)
theorem dX0_isSo_34 : DE cX0_isSo 34 (.ifCond .eq 5) 3 := dop_153 (dn_w dw1_2 2 rfl) rfl
theorem dX0_isSo_37 : DE cX0_isSo 37 (.iconst 0) 1 := dop_3 (dn_w dw1_2 5 rfl)
theorem dX0_isSo_38 : DE cX0_isSo 38 (.ireturn) 1 := dop_172 (dn_w dw1_2 6 rfl)
theorem dX0_isSo_39 : DE cX0_isSo 39 (.aload_n 0) 1 := dop_42 (dn_w dw1_2 7 rfl)
theorem dX0_isSo_40 : DE cX0_isSo 40 (.getfield 21) 3 := dop_180 (dn_w dw1_2 8 rfl) rfl
theorem dX0_isSo_43 : DE cX0_isSo 43 (.iconst 5) 1 := dop_8 (dn_w dw1_2 11 rfl)
theorem dX0_isSo_44 : DE cX0_isSo 44 (.irem) 1 := dop_112 (dn_w dw1_2 12 rfl)
theorem dX0_isSo_45 : DE cX0_isSo 45 (.istore_n 1) 1 := dop_60 (dn_w dw1_2 13 rfl)
theorem dX0_isSo_46 : DE cX0_isSo 46 (.aload_n 0) 1 := dop_42 (dn_w dw1_2 14 rfl)
theorem dX0_isSo_47 : DE cX0_isSo 47 (.getfield 9) 3 := dop_180 (dn_w dw1_2 15 rfl) rfl
theorem dX0_isSo_50 : DE cX0_isSo 50 (.iconst 2) 1 := dop_5 (dn_w dw1_3 2 rfl)
theorem dX0_isSo_51 : DE cX0_isSo 51 (.iand) 1 := dop_126 (dn_w dw1_3 3 rfl)
theorem dX0_isSo_52 : DE cX0_isSo 52 (.ifCond .ne 13) 3 := dop_154 (dn_w dw1_3 4 rfl) rfl
theorem dX0_isSo_55 : DE cX0_isSo 55 (.iload_n 1) 1 := dop_27 (dn_w dw1_3 7 rfl)
theorem dX0_isSo_56 : DE cX0_isSo 56 (.aload_n 0) 1 := dop_42 (dn_w dw1_3 8 rfl)
theorem dX0_isSo_57 : DE cX0_isSo 57 (.getfield 24) 3 := dop_180 (dn_w dw1_3 9 rfl) rfl
theorem dX0_isSo_60 : DE cX0_isSo 60 (.iconst 5) 1 := dop_8 (dn_w dw1_3 12 rfl)
theorem dX0_isSo_61 : DE cX0_isSo 61 (.irem) 1 := dop_112 (dn_w dw1_3 13 rfl)
theorem dX0_isSo_62 : DE cX0_isSo 62 (.if_icmp .ne 7) 3 := dop_160 (dn_w dw1_3 14 rfl) rfl
theorem dX0_isSo_65 : DE cX0_isSo 65 (.iconst 1) 1 := dop_4 (dn_w dw1_4 1 rfl)
theorem dX0_isSo_66 : DE cX0_isSo 66 (.goto 4) 3 := dop_167 (dn_w dw1_4 2 rfl) rfl
theorem dX0_isSo_69 : DE cX0_isSo 69 (.iconst 0) 1 := dop_3 (dn_w dw1_4 5 rfl)
theorem dX0_isSo_70 : DE cX0_isSo 70 (.istore_n 2) 1 := dop_61 (dn_w dw1_4 6 rfl)
theorem dX0_isSo_71 : DE cX0_isSo 71 (.aload_n 0) 1 := dop_42 (dn_w dw1_4 7 rfl)
theorem dX0_isSo_72 : DE cX0_isSo 72 (.getfield 9) 3 := dop_180 (dn_w dw1_4 8 rfl) rfl
theorem dX0_isSo_75 : DE cX0_isSo 75 (.iconst 1) 1 := dop_4 (dn_w dw1_4 11 rfl)
theorem dX0_isSo_76 : DE cX0_isSo 76 (.iand) 1 := dop_126 (dn_w dw1_4 12 rfl)
theorem dX0_isSo_77 : DE cX0_isSo 77 (.ifCond .eq 7) 3 := dop_153 (dn_w dw1_4 13 rfl) rfl
theorem dX0_isSo_80 : DE cX0_isSo 80 (.iconst 1) 1 := dop_4 (dn_w dw1_5 0 rfl)
theorem dX0_isSo_81 : DE cX0_isSo 81 (.goto 4) 3 := dop_167 (dn_w dw1_5 1 rfl) rfl
theorem dX0_isSo_84 : DE cX0_isSo 84 (.iconst 0) 1 := dop_3 (dn_w dw1_5 4 rfl)
theorem dX0_isSo_85 : DE cX0_isSo 85 (.istore_n 3) 1 := dop_62 (dn_w dw1_5 5 rfl)
theorem dX0_isSo_86 : DE cX0_isSo 86 (.iload_n 1) 1 := dop_27 (dn_w dw1_5 6 rfl)
theorem dX0_isSo_87 : DE cX0_isSo 87 (.ifCond .eq 8) 3 := dop_153 (dn_w dw1_5 7 rfl) rfl
theorem dX0_isSo_90 : DE cX0_isSo 90 (.iload_n 1) 1 := dop_27 (dn_w dw1_5 10 rfl)
theorem dX0_isSo_91 : DE cX0_isSo 91 (.iconst 4) 1 := dop_7 (dn_w dw1_5 11 rfl)
theorem dX0_isSo_92 : DE cX0_isSo 92 (.if_icmp .ne 7) 3 := dop_160 (dn_w dw1_5 12 rfl) rfl
theorem dX0_isSo_95 : DE cX0_isSo 95 (.iconst 1) 1 := dop_4 (dn_w dw1_5 15 rfl)
theorem dX0_isSo_96 : DE cX0_isSo 96 (.goto 4) 3 := dop_167 (dn_w dw1_6 0 rfl) rfl
theorem dX0_isSo_99 : DE cX0_isSo 99 (.iconst 0) 1 := dop_3 (dn_w dw1_6 3 rfl)
theorem dX0_isSo_100 : DE cX0_isSo 100 (.istore 4) 2 := dop_54 (dn_w dw1_6 4 rfl)
theorem dX0_isSo_102 : DE cX0_isSo 102 (.aload_n 0) 1 := dop_42 (dn_w dw1_6 6 rfl)
theorem dX0_isSo_103 : DE cX0_isSo 103 (.getfield 27) 3 := dop_180 (dn_w dw1_6 7 rfl) rfl
theorem dX0_isSo_106 : decode cX0_isSo 106 = .ok (.tableswitch 134 1 5 #[34, 61, 91, 36, 74], 34) := by decide +kernel
theorem dX0_isSo_140 : DE cX0_isSo 140 (.iload_n 2) 1 := dop_28 (dn_w dw1_8 12 rfl)
theorem dX0_isSo_141 : DE cX0_isSo 141 (.ireturn) 1 := dop_172 (dn_w dw1_8 13 rfl)
theorem dX0_isSo_142 : DE cX0_isSo 142 (.iload_n 2) 1 := dop_28 (dn_w dw1_8 14 rfl)
theorem dX0_isSo_143 : DE cX0_isSo 143 (.ifCond .ne 18) 3 := dop_154 (dn_w dw1_8 15 rfl) rfl
theorem dX0_isSo_146 : DE cX0_isSo 146 (.aload_n 0) 1 := dop_42 (dn_w dw1_9 2 rfl)
theorem dX0_isSo_147 : DE cX0_isSo 147 (.getfield 21) 3 := dop_180 (dn_w dw1_9 3 rfl) rfl
theorem dX0_isSo_150 : DE cX0_isSo 150 (.aload_n 0) 1 := dop_42 (dn_w dw1_9 6 rfl)
theorem dX0_isSo_151 : DE cX0_isSo 151 (.getfield 24) 3 := dop_180 (dn_w dw1_9 7 rfl) rfl
theorem dX0_isSo_154 : DE cX0_isSo 154 (.iadd) 1 := dop_96 (dn_w dw1_9 10 rfl)
theorem dX0_isSo_155 : DE cX0_isSo 155 (.iconst 2) 1 := dop_5 (dn_w dw1_9 11 rfl)
theorem dX0_isSo_156 : DE cX0_isSo 156 (.irem) 1 := dop_112 (dn_w dw1_9 12 rfl)
theorem dX0_isSo_157 : DE cX0_isSo 157 (.iconst 1) 1 := dop_4 (dn_w dw1_9 13 rfl)
theorem dX0_isSo_158 : DE cX0_isSo 158 (.if_icmp .ne 7) 3 := dop_160 (dn_w dw1_9 14 rfl) rfl
theorem dX0_isSo_161 : DE cX0_isSo 161 (.iconst 1) 1 := dop_4 (dn_w dw1_10 1 rfl)
theorem dX0_isSo_162 : DE cX0_isSo 162 (.goto 4) 3 := dop_167 (dn_w dw1_10 2 rfl) rfl
theorem dX0_isSo_165 : DE cX0_isSo 165 (.iconst 0) 1 := dop_3 (dn_w dw1_10 5 rfl)
theorem dX0_isSo_166 : DE cX0_isSo 166 (.ireturn) 1 := dop_172 (dn_w dw1_10 6 rfl)
theorem dX0_isSo_167 : DE cX0_isSo 167 (.aload_n 0) 1 := dop_42 (dn_w dw1_10 7 rfl)
theorem dX0_isSo_168 : DE cX0_isSo 168 (.getfield 30) 3 := dop_180 (dn_w dw1_10 8 rfl) rfl
theorem dX0_isSo_171 : DE cX0_isSo 171 (.ifCond .le 7) 3 := dop_158 (dn_w dw1_10 11 rfl) rfl
theorem dX0_isSo_174 : DE cX0_isSo 174 (.iconst 1) 1 := dop_4 (dn_w dw1_10 14 rfl)
theorem dX0_isSo_175 : DE cX0_isSo 175 (.goto 4) 3 := dop_167 (dn_w dw1_10 15 rfl) rfl
theorem dX0_isSo_178 : DE cX0_isSo 178 (.iconst 0) 1 := dop_3 (dn_w dw1_11 2 rfl)
theorem dX0_isSo_179 : DE cX0_isSo 179 (.ireturn) 1 := dop_172 (dn_w dw1_11 3 rfl)
theorem dX0_isSo_180 : DE cX0_isSo 180 (.aload_n 0) 1 := dop_42 (dn_w dw1_11 4 rfl)
theorem dX0_isSo_181 : DE cX0_isSo 181 (.getfield 30) 3 := dop_180 (dn_w dw1_11 5 rfl) rfl
theorem dX0_isSo_184 : DE cX0_isSo 184 (.ifCond .gt 7) 3 := dop_157 (dn_w dw1_11 8 rfl) rfl
theorem dX0_isSo_187 : DE cX0_isSo 187 (.iload_n 3) 1 := dop_29 (dn_w dw1_11 11 rfl)
theorem dX0_isSo_188 : DE cX0_isSo 188 (.ifCond .eq 7) 3 := dop_153 (dn_w dw1_11 12 rfl) rfl
theorem dX0_isSo_191 : DE cX0_isSo 191 (.iconst 1) 1 := dop_4 (dn_w dw1_11 15 rfl)
theorem dX0_isSo_192 : DE cX0_isSo 192 (.goto 4) 3 := dop_167 (dn_w dw1_12 0 rfl) rfl
theorem dX0_isSo_195 : DE cX0_isSo 195 (.iconst 0) 1 := dop_3 (dn_w dw1_12 3 rfl)
theorem dX0_isSo_196 : DE cX0_isSo 196 (.ireturn) 1 := dop_172 (dn_w dw1_12 4 rfl)
theorem dX0_isSo_197 : DE cX0_isSo 197 (.iload_n 3) 1 := dop_29 (dn_w dw1_12 5 rfl)
theorem dX0_isSo_198 : DE cX0_isSo 198 (.ifCond .ne 36) 3 := dop_154 (dn_w dw1_12 6 rfl) rfl
theorem dX0_isSo_201 : DE cX0_isSo 201 (.aload_n 0) 1 := dop_42 (dn_w dw1_12 9 rfl)
theorem dX0_isSo_202 : DE cX0_isSo 202 (.getfield 9) 3 := dop_180 (dn_w dw1_12 10 rfl) rfl
theorem dX0_isSo_205 : DE cX0_isSo 205 (.iconst 4) 1 := dop_7 (dn_w dw1_12 13 rfl)
theorem dX0_isSo_206 : DE cX0_isSo 206 (.iand) 1 := dop_126 (dn_w dw1_12 14 rfl)
theorem dX0_isSo_207 : DE cX0_isSo 207 (.ifCond .ne 27) 3 := dop_154 (dn_w dw1_12 15 rfl) rfl
theorem dX0_isSo_210 : DE cX0_isSo 210 (.aload_n 0) 1 := dop_42 (dn_w dw1_13 2 rfl)
theorem dX0_isSo_211 : DE cX0_isSo 211 (.getfield 24) 3 := dop_180 (dn_w dw1_13 3 rfl) rfl
theorem dX0_isSo_214 : DE cX0_isSo 214 (.iconst 5) 1 := dop_8 (dn_w dw1_13 6 rfl)
theorem dX0_isSo_215 : DE cX0_isSo 215 (.if_icmp .lt 8) 3 := dop_161 (dn_w dw1_13 7 rfl) rfl
theorem dX0_isSo_218 : DE cX0_isSo 218 (.iload 4) 2 := dop_21 (dn_w dw1_13 10 rfl)
theorem dX0_isSo_220 : DE cX0_isSo 220 (.ifCond .ne 14) 3 := dop_154 (dn_w dw1_13 12 rfl) rfl
theorem dX0_isSo_223 : DE cX0_isSo 223 (.aload_n 0) 1 := dop_42 (dn_w dw1_13 15 rfl)
theorem dX0_isSo_224 : DE cX0_isSo 224 (.getfield 33) 3 := dop_180 (dn_w dw1_14 0 rfl) rfl
theorem dX0_isSo_227 : DE cX0_isSo 227 (.aload_n 0) 1 := dop_42 (dn_w dw1_14 3 rfl)
theorem dX0_isSo_228 : DE cX0_isSo 228 (.getfield 36) 3 := dop_180 (dn_w dw1_14 4 rfl) rfl
theorem dX0_isSo_231 : DE cX0_isSo 231 (.if_icmp .lt 7) 3 := dop_161 (dn_w dw1_14 7 rfl) rfl
theorem dX0_isSo_234 : DE cX0_isSo 234 (.iconst 1) 1 := dop_4 (dn_w dw1_14 10 rfl)
theorem dX0_isSo_235 : DE cX0_isSo 235 (.goto 4) 3 := dop_167 (dn_w dw1_14 11 rfl) rfl
theorem dX0_isSo_238 : DE cX0_isSo 238 (.iconst 0) 1 := dop_3 (dn_w dw1_14 14 rfl)
theorem dX0_isSo_239 : DE cX0_isSo 239 (.ireturn) 1 := dop_172 (dn_w dw1_14 15 rfl)
theorem dX0_isSo_240 : DE cX0_isSo 240 (.iconst 0) 1 := dop_3 (dn_w dw1_15 0 rfl)
theorem dX0_isSo_241 : DE cX0_isSo 241 (.ireturn) 1 := dop_172 (dn_w dw1_15 1 rfl)
noncomputable def dt2_1 : List Nat := 15 :: 177 :: []
noncomputable def dt2_0 : List Nat := 42 :: 183 :: 0 :: 3 :: 42 :: 16 :: 60 :: 188 :: 10 :: 181 :: 0 :: 11 :: 42 :: 3 :: 181 :: 0 :: dt2_1
theorem dw2_0 : dn cX1_init 0 = dt2_0 := by decide +kernel
theorem dw2_1 : dn cX1_init 16 = dt2_1 := dn_w dw2_0 16 rfl
theorem dX1_init_0 : DE cX1_init 0 (.aload_n 0) 1 := dop_42 (dn_w dw2_0 0 rfl)
theorem dX1_init_1 : DE cX1_init 1 (.invokespecial 3) 3 := dop_183 (dn_w dw2_0 1 rfl) rfl
theorem dX1_init_4 : DE cX1_init 4 (.aload_n 0) 1 := dop_42 (dn_w dw2_0 4 rfl)
theorem dX1_init_5 : DE cX1_init 5 (.bipush 60) 2 := dop_16 (dn_w dw2_0 5 rfl) rfl
theorem dX1_init_7 : decode cX1_init 7 = .ok (.newarray .int, 2) := by decide +kernel
theorem dX1_init_9 : DE cX1_init 9 (.putfield 11) 3 := dop_181 (dn_w dw2_0 9 rfl) rfl
theorem dX1_init_12 : DE cX1_init 12 (.aload_n 0) 1 := dop_42 (dn_w dw2_0 12 rfl)
theorem dX1_init_13 : DE cX1_init 13 (.iconst 0) 1 := dop_3 (dn_w dw2_0 13 rfl)
theorem dX1_init_14 : DE cX1_init 14 (.putfield 15) 3 := dop_181 (dn_w dw2_0 14 rfl) rfl
theorem dX1_init_17 : DE cX1_init 17 (.return_) 1 := dop_177 (dn_w dw2_1 1 rfl)
noncomputable def dt3_1 : List Nat := 28 :: 6 :: 162 :: 0 :: 11 :: 27 :: 6 :: 104 :: 28 :: 96 :: 167 :: 0 :: 4 :: 2 :: 172 :: []
noncomputable def dt3_0 : List Nat := 27 :: 155 :: 0 :: 28 :: 27 :: 42 :: 180 :: 0 :: 15 :: 162 :: 0 :: 20 :: 28 :: 155 :: 0 :: 16 :: dt3_1
theorem dw3_0 : dn cX1_placeOf 0 = dt3_0 := by decide +kernel
theorem dw3_1 : dn cX1_placeOf 16 = dt3_1 := dn_w dw3_0 16 rfl
theorem dX1_placeOf_0 : DE cX1_placeOf 0 (.iload_n 1) 1 := dop_27 (dn_w dw3_0 0 rfl)
theorem dX1_placeOf_1 : DE cX1_placeOf 1 (.ifCond .lt 28) 3 := dop_155 (dn_w dw3_0 1 rfl) rfl
theorem dX1_placeOf_4 : DE cX1_placeOf 4 (.iload_n 1) 1 := dop_27 (dn_w dw3_0 4 rfl)
theorem dX1_placeOf_5 : DE cX1_placeOf 5 (.aload_n 0) 1 := dop_42 (dn_w dw3_0 5 rfl)
theorem dX1_placeOf_6 : DE cX1_placeOf 6 (.getfield 15) 3 := dop_180 (dn_w dw3_0 6 rfl) rfl
theorem dX1_placeOf_9 : DE cX1_placeOf 9 (.if_icmp .ge 20) 3 := dop_162 (dn_w dw3_0 9 rfl) rfl
theorem dX1_placeOf_12 : DE cX1_placeOf 12 (.iload_n 2) 1 := dop_28 (dn_w dw3_0 12 rfl)
theorem dX1_placeOf_13 : DE cX1_placeOf 13 (.ifCond .lt 16) 3 := dop_155 (dn_w dw3_0 13 rfl) rfl
theorem dX1_placeOf_16 : DE cX1_placeOf 16 (.iload_n 2) 1 := dop_28 (dn_w dw3_1 0 rfl)
theorem dX1_placeOf_17 : DE cX1_placeOf 17 (.iconst 3) 1 := dop_6 (dn_w dw3_1 1 rfl)
theorem dX1_placeOf_18 : DE cX1_placeOf 18 (.if_icmp .ge 11) 3 := dop_162 (dn_w dw3_1 2 rfl) rfl
theorem dX1_placeOf_21 : DE cX1_placeOf 21 (.iload_n 1) 1 := dop_27 (dn_w dw3_1 5 rfl)
theorem dX1_placeOf_22 : DE cX1_placeOf 22 (.iconst 3) 1 := dop_6 (dn_w dw3_1 6 rfl)
theorem dX1_placeOf_23 : DE cX1_placeOf 23 (.imul) 1 := dop_104 (dn_w dw3_1 7 rfl)
theorem dX1_placeOf_24 : DE cX1_placeOf 24 (.iload_n 2) 1 := dop_28 (dn_w dw3_1 8 rfl)
theorem dX1_placeOf_25 : DE cX1_placeOf 25 (.iadd) 1 := dop_96 (dn_w dw3_1 9 rfl)
theorem dX1_placeOf_26 : DE cX1_placeOf 26 (.goto 4) 3 := dop_167 (dn_w dw3_1 10 rfl) rfl
theorem dX1_placeOf_29 : DE cX1_placeOf 29 (.iconst (-1)) 1 := dop_2 (dn_w dw3_1 13 rfl)
theorem dX1_placeOf_30 : DE cX1_placeOf 30 (.ireturn) 1 := dop_172 (dn_w dw3_1 14 rfl)
noncomputable def dt4_3 : List Nat := 79 :: 42 :: 89 :: 180 :: 0 :: 15 :: 4 :: 96 :: 181 :: 0 :: 15 :: 177 :: []
noncomputable def dt4_2 : List Nat := 96 :: 28 :: 79 :: 42 :: 180 :: 0 :: 11 :: 42 :: 180 :: 0 :: 15 :: 6 :: 104 :: 5 :: 96 :: 29 :: dt4_3
noncomputable def dt4_1 : List Nat := 15 :: 6 :: 104 :: 27 :: 79 :: 42 :: 180 :: 0 :: 11 :: 42 :: 180 :: 0 :: 15 :: 6 :: 104 :: 4 :: dt4_2
noncomputable def dt4_0 : List Nat := 42 :: 180 :: 0 :: 15 :: 16 :: 20 :: 162 :: 0 :: 53 :: 42 :: 180 :: 0 :: 11 :: 42 :: 180 :: 0 :: dt4_1
theorem dw4_0 : dn cX1_addRow 0 = dt4_0 := by decide +kernel
theorem dw4_1 : dn cX1_addRow 16 = dt4_1 := dn_w dw4_0 16 rfl
theorem dw4_2 : dn cX1_addRow 32 = dt4_2 := dn_w dw4_1 16 rfl
theorem dw4_3 : dn cX1_addRow 48 = dt4_3 := dn_w dw4_2 16 rfl
theorem dX1_addRow_0 : DE cX1_addRow 0 (.aload_n 0) 1 := dop_42 (dn_w dw4_0 0 rfl)
theorem dX1_addRow_1 : DE cX1_addRow 1 (.getfield 15) 3 := dop_180 (dn_w dw4_0 1 rfl) rfl
theorem dX1_addRow_4 : DE cX1_addRow 4 (.bipush 20) 2 := dop_16 (dn_w dw4_0 4 rfl) rfl
theorem dX1_addRow_6 : DE cX1_addRow 6 (.if_icmp .ge 53) 3 := dop_162 (dn_w dw4_0 6 rfl) rfl
theorem dX1_addRow_9 : DE cX1_addRow 9 (.aload_n 0) 1 := dop_42 (dn_w dw4_0 9 rfl)
theorem dX1_addRow_10 : DE cX1_addRow 10 (.getfield 11) 3 := dop_180 (dn_w dw4_0 10 rfl) rfl
theorem dX1_addRow_13 : DE cX1_addRow 13 (.aload_n 0) 1 := dop_42 (dn_w dw4_0 13 rfl)
theorem dX1_addRow_14 : DE cX1_addRow 14 (.getfield 15) 3 := dop_180 (dn_w dw4_0 14 rfl) rfl
theorem dX1_addRow_17 : DE cX1_addRow 17 (.iconst 3) 1 := dop_6 (dn_w dw4_1 1 rfl)
theorem dX1_addRow_18 : DE cX1_addRow 18 (.imul) 1 := dop_104 (dn_w dw4_1 2 rfl)
theorem dX1_addRow_19 : DE cX1_addRow 19 (.iload_n 1) 1 := dop_27 (dn_w dw4_1 3 rfl)
theorem dX1_addRow_20 : DE cX1_addRow 20 (.iastore) 1 := dop_79 (dn_w dw4_1 4 rfl)
theorem dX1_addRow_21 : DE cX1_addRow 21 (.aload_n 0) 1 := dop_42 (dn_w dw4_1 5 rfl)
theorem dX1_addRow_22 : DE cX1_addRow 22 (.getfield 11) 3 := dop_180 (dn_w dw4_1 6 rfl) rfl
theorem dX1_addRow_25 : DE cX1_addRow 25 (.aload_n 0) 1 := dop_42 (dn_w dw4_1 9 rfl)
theorem dX1_addRow_26 : DE cX1_addRow 26 (.getfield 15) 3 := dop_180 (dn_w dw4_1 10 rfl) rfl
theorem dX1_addRow_29 : DE cX1_addRow 29 (.iconst 3) 1 := dop_6 (dn_w dw4_1 13 rfl)
theorem dX1_addRow_30 : DE cX1_addRow 30 (.imul) 1 := dop_104 (dn_w dw4_1 14 rfl)
theorem dX1_addRow_31 : DE cX1_addRow 31 (.iconst 1) 1 := dop_4 (dn_w dw4_1 15 rfl)
theorem dX1_addRow_32 : DE cX1_addRow 32 (.iadd) 1 := dop_96 (dn_w dw4_2 0 rfl)
theorem dX1_addRow_33 : DE cX1_addRow 33 (.iload_n 2) 1 := dop_28 (dn_w dw4_2 1 rfl)
theorem dX1_addRow_34 : DE cX1_addRow 34 (.iastore) 1 := dop_79 (dn_w dw4_2 2 rfl)
theorem dX1_addRow_35 : DE cX1_addRow 35 (.aload_n 0) 1 := dop_42 (dn_w dw4_2 3 rfl)
theorem dX1_addRow_36 : DE cX1_addRow 36 (.getfield 11) 3 := dop_180 (dn_w dw4_2 4 rfl) rfl
theorem dX1_addRow_39 : DE cX1_addRow 39 (.aload_n 0) 1 := dop_42 (dn_w dw4_2 7 rfl)
theorem dX1_addRow_40 : DE cX1_addRow 40 (.getfield 15) 3 := dop_180 (dn_w dw4_2 8 rfl) rfl
theorem dX1_addRow_43 : DE cX1_addRow 43 (.iconst 3) 1 := dop_6 (dn_w dw4_2 11 rfl)
theorem dX1_addRow_44 : DE cX1_addRow 44 (.imul) 1 := dop_104 (dn_w dw4_2 12 rfl)
theorem dX1_addRow_45 : DE cX1_addRow 45 (.iconst 2) 1 := dop_5 (dn_w dw4_2 13 rfl)
theorem dX1_addRow_46 : DE cX1_addRow 46 (.iadd) 1 := dop_96 (dn_w dw4_2 14 rfl)
theorem dX1_addRow_47 : DE cX1_addRow 47 (.iload_n 3) 1 := dop_29 (dn_w dw4_2 15 rfl)
theorem dX1_addRow_48 : DE cX1_addRow 48 (.iastore) 1 := dop_79 (dn_w dw4_3 0 rfl)
theorem dX1_addRow_49 : DE cX1_addRow 49 (.aload_n 0) 1 := dop_42 (dn_w dw4_3 1 rfl)
theorem dX1_addRow_50 : DE cX1_addRow 50 (.dup) 1 := dop_89 (dn_w dw4_3 2 rfl)
theorem dX1_addRow_51 : DE cX1_addRow 51 (.getfield 15) 3 := dop_180 (dn_w dw4_3 3 rfl) rfl
theorem dX1_addRow_54 : DE cX1_addRow 54 (.iconst 1) 1 := dop_4 (dn_w dw4_3 6 rfl)
theorem dX1_addRow_55 : DE cX1_addRow 55 (.iadd) 1 := dop_96 (dn_w dw4_3 7 rfl)
theorem dX1_addRow_56 : DE cX1_addRow 56 (.putfield 15) 3 := dop_181 (dn_w dw4_3 8 rfl) rfl
theorem dX1_addRow_59 : DE cX1_addRow 59 (.return_) 1 := dop_177 (dn_w dw4_3 11 rfl)
noncomputable def dt5_3 : List Nat := 160 :: 0 :: 7 :: 4 :: 167 :: 0 :: 4 :: 3 :: 172 :: []
noncomputable def dt5_2 : List Nat := 46 :: 29 :: 160 :: 0 :: 21 :: 42 :: 180 :: 0 :: 11 :: 21 :: 5 :: 5 :: 96 :: 46 :: 21 :: 4 :: dt5_3
noncomputable def dt5_1 : List Nat := 11 :: 21 :: 5 :: 46 :: 28 :: 160 :: 0 :: 34 :: 42 :: 180 :: 0 :: 11 :: 21 :: 5 :: 4 :: 96 :: dt5_2
noncomputable def dt5_0 : List Nat := 42 :: 27 :: 3 :: 182 :: 0 :: 19 :: 54 :: 5 :: 21 :: 5 :: 155 :: 0 :: 45 :: 42 :: 180 :: 0 :: dt5_1
theorem dw5_0 : dn cX1_isRow 0 = dt5_0 := by decide +kernel
theorem dw5_1 : dn cX1_isRow 16 = dt5_1 := dn_w dw5_0 16 rfl
theorem dw5_2 : dn cX1_isRow 32 = dt5_2 := dn_w dw5_1 16 rfl
theorem dw5_3 : dn cX1_isRow 48 = dt5_3 := dn_w dw5_2 16 rfl
theorem dX1_isRow_0 : DE cX1_isRow 0 (.aload_n 0) 1 := dop_42 (dn_w dw5_0 0 rfl)
theorem dX1_isRow_1 : DE cX1_isRow 1 (.iload_n 1) 1 := dop_27 (dn_w dw5_0 1 rfl)
theorem dX1_isRow_2 : DE cX1_isRow 2 (.iconst 0) 1 := dop_3 (dn_w dw5_0 2 rfl)
theorem dX1_isRow_3 : DE cX1_isRow 3 (.invokevirtual 19) 3 := dop_182 (dn_w dw5_0 3 rfl) rfl
theorem dX1_isRow_6 : DE cX1_isRow 6 (.istore 5) 2 := dop_54 (dn_w dw5_0 6 rfl)
theorem dX1_isRow_8 : DE cX1_isRow 8 (.iload 5) 2 := dop_21 (dn_w dw5_0 8 rfl)
theorem dX1_isRow_10 : DE cX1_isRow 10 (.ifCond .lt 45) 3 := dop_155 (dn_w dw5_0 10 rfl) rfl
theorem dX1_isRow_13 : DE cX1_isRow 13 (.aload_n 0) 1 := dop_42 (dn_w dw5_0 13 rfl)
theorem dX1_isRow_14 : DE cX1_isRow 14 (.getfield 11) 3 := dop_180 (dn_w dw5_0 14 rfl) rfl
theorem dX1_isRow_17 : DE cX1_isRow 17 (.iload 5) 2 := dop_21 (dn_w dw5_1 1 rfl)
theorem dX1_isRow_19 : DE cX1_isRow 19 (.iaload) 1 := dop_46 (dn_w dw5_1 3 rfl)
theorem dX1_isRow_20 : DE cX1_isRow 20 (.iload_n 2) 1 := dop_28 (dn_w dw5_1 4 rfl)
theorem dX1_isRow_21 : DE cX1_isRow 21 (.if_icmp .ne 34) 3 := dop_160 (dn_w dw5_1 5 rfl) rfl
theorem dX1_isRow_24 : DE cX1_isRow 24 (.aload_n 0) 1 := dop_42 (dn_w dw5_1 8 rfl)
theorem dX1_isRow_25 : DE cX1_isRow 25 (.getfield 11) 3 := dop_180 (dn_w dw5_1 9 rfl) rfl
theorem dX1_isRow_28 : DE cX1_isRow 28 (.iload 5) 2 := dop_21 (dn_w dw5_1 12 rfl)
theorem dX1_isRow_30 : DE cX1_isRow 30 (.iconst 1) 1 := dop_4 (dn_w dw5_1 14 rfl)
theorem dX1_isRow_31 : DE cX1_isRow 31 (.iadd) 1 := dop_96 (dn_w dw5_1 15 rfl)
theorem dX1_isRow_32 : DE cX1_isRow 32 (.iaload) 1 := dop_46 (dn_w dw5_2 0 rfl)
theorem dX1_isRow_33 : DE cX1_isRow 33 (.iload_n 3) 1 := dop_29 (dn_w dw5_2 1 rfl)
theorem dX1_isRow_34 : DE cX1_isRow 34 (.if_icmp .ne 21) 3 := dop_160 (dn_w dw5_2 2 rfl) rfl
theorem dX1_isRow_37 : DE cX1_isRow 37 (.aload_n 0) 1 := dop_42 (dn_w dw5_2 5 rfl)
theorem dX1_isRow_38 : DE cX1_isRow 38 (.getfield 11) 3 := dop_180 (dn_w dw5_2 6 rfl) rfl
theorem dX1_isRow_41 : DE cX1_isRow 41 (.iload 5) 2 := dop_21 (dn_w dw5_2 9 rfl)
theorem dX1_isRow_43 : DE cX1_isRow 43 (.iconst 2) 1 := dop_5 (dn_w dw5_2 11 rfl)
theorem dX1_isRow_44 : DE cX1_isRow 44 (.iadd) 1 := dop_96 (dn_w dw5_2 12 rfl)
theorem dX1_isRow_45 : DE cX1_isRow 45 (.iaload) 1 := dop_46 (dn_w dw5_2 13 rfl)
theorem dX1_isRow_46 : DE cX1_isRow 46 (.iload 4) 2 := dop_21 (dn_w dw5_2 14 rfl)
theorem dX1_isRow_48 : DE cX1_isRow 48 (.if_icmp .ne 7) 3 := dop_160 (dn_w dw5_3 0 rfl) rfl
theorem dX1_isRow_51 : DE cX1_isRow 51 (.iconst 1) 1 := dop_4 (dn_w dw5_3 3 rfl)
theorem dX1_isRow_52 : DE cX1_isRow 52 (.goto 4) 3 := dop_167 (dn_w dw5_3 4 rfl) rfl
theorem dX1_isRow_55 : DE cX1_isRow 55 (.iconst 0) 1 := dop_3 (dn_w dw5_3 7 rfl)
theorem dX1_isRow_56 : DE cX1_isRow 56 (.ireturn) 1 := dop_172 (dn_w dw5_3 8 rfl)
noncomputable def dt6_8 : List Nat := 0 :: 65 :: 177 :: []
noncomputable def dt6_7 : List Nat := 0 :: 57 :: 181 :: 0 :: 58 :: 178 :: 0 :: 62 :: 3 :: 42 :: 180 :: 0 :: 46 :: 3 :: 7 :: 184 :: dt6_8
noncomputable def dt6_6 : List Nat := 42 :: 3 :: 181 :: 0 :: 49 :: 42 :: 4 :: 181 :: 0 :: 52 :: 42 :: 187 :: 0 :: 55 :: 89 :: 183 :: dt6_7
noncomputable def dt6_5 : List Nat := 40 :: 42 :: 16 :: 40 :: 188 :: 10 :: 181 :: 0 :: 43 :: 42 :: 7 :: 188 :: 10 :: 181 :: 0 :: 46 :: dt6_6
noncomputable def dt6_4 : List Nat := 33 :: 42 :: 16 :: 40 :: 188 :: 10 :: 181 :: 0 :: 37 :: 42 :: 16 :: 40 :: 188 :: 10 :: 181 :: 0 :: dt6_5
noncomputable def dt6_3 : List Nat := 10 :: 181 :: 0 :: 27 :: 42 :: 16 :: 8 :: 188 :: 10 :: 181 :: 0 :: 30 :: 42 :: 3 :: 181 :: 0 :: dt6_4
noncomputable def dt6_2 : List Nat := 10 :: 181 :: 0 :: 21 :: 42 :: 16 :: 8 :: 188 :: 10 :: 181 :: 0 :: 24 :: 42 :: 16 :: 8 :: 188 :: dt6_3
noncomputable def dt6_1 : List Nat := 10 :: 181 :: 0 :: 15 :: 42 :: 16 :: 8 :: 188 :: 10 :: 181 :: 0 :: 18 :: 42 :: 16 :: 8 :: 188 :: dt6_2
noncomputable def dt6_0 : List Nat := 42 :: 183 :: 0 :: 3 :: 42 :: 16 :: 8 :: 188 :: 10 :: 181 :: 0 :: 9 :: 42 :: 16 :: 8 :: 188 :: dt6_1
theorem dw6_0 : dn cX2_init 0 = dt6_0 := by decide +kernel
theorem dw6_1 : dn cX2_init 16 = dt6_1 := dn_w dw6_0 16 rfl
theorem dw6_2 : dn cX2_init 32 = dt6_2 := dn_w dw6_1 16 rfl
theorem dw6_3 : dn cX2_init 48 = dt6_3 := dn_w dw6_2 16 rfl
theorem dw6_4 : dn cX2_init 64 = dt6_4 := dn_w dw6_3 16 rfl
theorem dw6_5 : dn cX2_init 80 = dt6_5 := dn_w dw6_4 16 rfl
theorem dw6_6 : dn cX2_init 96 = dt6_6 := dn_w dw6_5 16 rfl
theorem dw6_7 : dn cX2_init 112 = dt6_7 := dn_w dw6_6 16 rfl
theorem dw6_8 : dn cX2_init 128 = dt6_8 := dn_w dw6_7 16 rfl
theorem dX2_init_0 : DE cX2_init 0 (.aload_n 0) 1 := dop_42 (dn_w dw6_0 0 rfl)
theorem dX2_init_1 : DE cX2_init 1 (.invokespecial 3) 3 := dop_183 (dn_w dw6_0 1 rfl) rfl
theorem dX2_init_4 : DE cX2_init 4 (.aload_n 0) 1 := dop_42 (dn_w dw6_0 4 rfl)
theorem dX2_init_5 : DE cX2_init 5 (.bipush 8) 2 := dop_16 (dn_w dw6_0 5 rfl) rfl
theorem dX2_init_7 : decode cX2_init 7 = .ok (.newarray .int, 2) := by decide +kernel
theorem dX2_init_9 : DE cX2_init 9 (.putfield 9) 3 := dop_181 (dn_w dw6_0 9 rfl) rfl
theorem dX2_init_12 : DE cX2_init 12 (.aload_n 0) 1 := dop_42 (dn_w dw6_0 12 rfl)
theorem dX2_init_13 : DE cX2_init 13 (.bipush 8) 2 := dop_16 (dn_w dw6_0 13 rfl) rfl
theorem dX2_init_15 : decode cX2_init 15 = .ok (.newarray .int, 2) := by decide +kernel
theorem dX2_init_17 : DE cX2_init 17 (.putfield 15) 3 := dop_181 (dn_w dw6_1 1 rfl) rfl
theorem dX2_init_20 : DE cX2_init 20 (.aload_n 0) 1 := dop_42 (dn_w dw6_1 4 rfl)
theorem dX2_init_21 : DE cX2_init 21 (.bipush 8) 2 := dop_16 (dn_w dw6_1 5 rfl) rfl
theorem dX2_init_23 : decode cX2_init 23 = .ok (.newarray .int, 2) := by decide +kernel
theorem dX2_init_25 : DE cX2_init 25 (.putfield 18) 3 := dop_181 (dn_w dw6_1 9 rfl) rfl
theorem dX2_init_28 : DE cX2_init 28 (.aload_n 0) 1 := dop_42 (dn_w dw6_1 12 rfl)
theorem dX2_init_29 : DE cX2_init 29 (.bipush 8) 2 := dop_16 (dn_w dw6_1 13 rfl) rfl
theorem dX2_init_31 : decode cX2_init 31 = .ok (.newarray .int, 2) := by decide +kernel
theorem dX2_init_33 : DE cX2_init 33 (.putfield 21) 3 := dop_181 (dn_w dw6_2 1 rfl) rfl
theorem dX2_init_36 : DE cX2_init 36 (.aload_n 0) 1 := dop_42 (dn_w dw6_2 4 rfl)
theorem dX2_init_37 : DE cX2_init 37 (.bipush 8) 2 := dop_16 (dn_w dw6_2 5 rfl) rfl
theorem dX2_init_39 : decode cX2_init 39 = .ok (.newarray .int, 2) := by decide +kernel
theorem dX2_init_41 : DE cX2_init 41 (.putfield 24) 3 := dop_181 (dn_w dw6_2 9 rfl) rfl
theorem dX2_init_44 : DE cX2_init 44 (.aload_n 0) 1 := dop_42 (dn_w dw6_2 12 rfl)
theorem dX2_init_45 : DE cX2_init 45 (.bipush 8) 2 := dop_16 (dn_w dw6_2 13 rfl) rfl
theorem dX2_init_47 : decode cX2_init 47 = .ok (.newarray .int, 2) := by decide +kernel
theorem dX2_init_49 : DE cX2_init 49 (.putfield 27) 3 := dop_181 (dn_w dw6_3 1 rfl) rfl
theorem dX2_init_52 : DE cX2_init 52 (.aload_n 0) 1 := dop_42 (dn_w dw6_3 4 rfl)
theorem dX2_init_53 : DE cX2_init 53 (.bipush 8) 2 := dop_16 (dn_w dw6_3 5 rfl) rfl
theorem dX2_init_55 : decode cX2_init 55 = .ok (.newarray .int, 2) := by decide +kernel
theorem dX2_init_57 : DE cX2_init 57 (.putfield 30) 3 := dop_181 (dn_w dw6_3 9 rfl) rfl
theorem dX2_init_60 : DE cX2_init 60 (.aload_n 0) 1 := dop_42 (dn_w dw6_3 12 rfl)
theorem dX2_init_61 : DE cX2_init 61 (.iconst 0) 1 := dop_3 (dn_w dw6_3 13 rfl)
theorem dX2_init_62 : DE cX2_init 62 (.putfield 33) 3 := dop_181 (dn_w dw6_3 14 rfl) rfl
theorem dX2_init_65 : DE cX2_init 65 (.aload_n 0) 1 := dop_42 (dn_w dw6_4 1 rfl)
theorem dX2_init_66 : DE cX2_init 66 (.bipush 40) 2 := dop_16 (dn_w dw6_4 2 rfl) rfl
theorem dX2_init_68 : decode cX2_init 68 = .ok (.newarray .int, 2) := by decide +kernel
theorem dX2_init_70 : DE cX2_init 70 (.putfield 37) 3 := dop_181 (dn_w dw6_4 6 rfl) rfl
theorem dX2_init_73 : DE cX2_init 73 (.aload_n 0) 1 := dop_42 (dn_w dw6_4 9 rfl)
theorem dX2_init_74 : DE cX2_init 74 (.bipush 40) 2 := dop_16 (dn_w dw6_4 10 rfl) rfl
theorem dX2_init_76 : decode cX2_init 76 = .ok (.newarray .int, 2) := by decide +kernel
theorem dX2_init_78 : DE cX2_init 78 (.putfield 40) 3 := dop_181 (dn_w dw6_4 14 rfl) rfl
theorem dX2_init_81 : DE cX2_init 81 (.aload_n 0) 1 := dop_42 (dn_w dw6_5 1 rfl)
theorem dX2_init_82 : DE cX2_init 82 (.bipush 40) 2 := dop_16 (dn_w dw6_5 2 rfl) rfl
theorem dX2_init_84 : decode cX2_init 84 = .ok (.newarray .int, 2) := by decide +kernel
theorem dX2_init_86 : DE cX2_init 86 (.putfield 43) 3 := dop_181 (dn_w dw6_5 6 rfl) rfl
theorem dX2_init_89 : DE cX2_init 89 (.aload_n 0) 1 := dop_42 (dn_w dw6_5 9 rfl)
theorem dX2_init_90 : DE cX2_init 90 (.iconst 4) 1 := dop_7 (dn_w dw6_5 10 rfl)
theorem dX2_init_91 : decode cX2_init 91 = .ok (.newarray .int, 2) := by decide +kernel
theorem dX2_init_93 : DE cX2_init 93 (.putfield 46) 3 := dop_181 (dn_w dw6_5 13 rfl) rfl
theorem dX2_init_96 : DE cX2_init 96 (.aload_n 0) 1 := dop_42 (dn_w dw6_6 0 rfl)
theorem dX2_init_97 : DE cX2_init 97 (.iconst 0) 1 := dop_3 (dn_w dw6_6 1 rfl)
theorem dX2_init_98 : DE cX2_init 98 (.putfield 49) 3 := dop_181 (dn_w dw6_6 2 rfl) rfl
theorem dX2_init_101 : DE cX2_init 101 (.aload_n 0) 1 := dop_42 (dn_w dw6_6 5 rfl)
theorem dX2_init_102 : DE cX2_init 102 (.iconst 1) 1 := dop_4 (dn_w dw6_6 6 rfl)
theorem dX2_init_103 : DE cX2_init 103 (.putfield 52) 3 := dop_181 (dn_w dw6_6 7 rfl) rfl
theorem dX2_init_106 : DE cX2_init 106 (.aload_n 0) 1 := dop_42 (dn_w dw6_6 10 rfl)
theorem dX2_init_107 : DE cX2_init 107 (.new 55) 3 := dop_187 (dn_w dw6_6 11 rfl) rfl
theorem dX2_init_110 : DE cX2_init 110 (.dup) 1 := dop_89 (dn_w dw6_6 14 rfl)
theorem dX2_init_111 : DE cX2_init 111 (.invokespecial 57) 3 := dop_183 (dn_w dw6_6 15 rfl) rfl
theorem dX2_init_114 : DE cX2_init 114 (.putfield 58) 3 := dop_181 (dn_w dw6_7 2 rfl) rfl
theorem dX2_init_117 : DE cX2_init 117 (.getstatic 62) 3 := dop_178 (dn_w dw6_7 5 rfl) rfl
theorem dX2_init_120 : DE cX2_init 120 (.iconst 0) 1 := dop_3 (dn_w dw6_7 8 rfl)
theorem dX2_init_121 : DE cX2_init 121 (.aload_n 0) 1 := dop_42 (dn_w dw6_7 9 rfl)
theorem dX2_init_122 : DE cX2_init 122 (.getfield 46) 3 := dop_180 (dn_w dw6_7 10 rfl) rfl
theorem dX2_init_125 : DE cX2_init 125 (.iconst 0) 1 := dop_3 (dn_w dw6_7 13 rfl)
theorem dX2_init_126 : DE cX2_init 126 (.iconst 4) 1 := dop_7 (dn_w dw6_7 14 rfl)
theorem dX2_init_127 : DE cX2_init 127 (.invokestatic 65) 3 := dop_184 (dn_w dw6_7 15 rfl) rfl
theorem dX2_init_130 : DE cX2_init 130 (.return_) 1 := dop_177 (dn_w dw6_8 2 rfl)
noncomputable def dt7_11 : List Nat := 49 :: 181 :: 0 :: 49 :: 42 :: 43 :: 180 :: 0 :: 52 :: 181 :: 0 :: 52 :: 177 :: []
noncomputable def dt7_10 : List Nat := 0 :: 46 :: 3 :: 42 :: 180 :: 0 :: 46 :: 3 :: 7 :: 184 :: 0 :: 65 :: 42 :: 43 :: 180 :: 0 :: dt7_11
noncomputable def dt7_9 : List Nat := 180 :: 0 :: 43 :: 3 :: 42 :: 180 :: 0 :: 43 :: 3 :: 16 :: 40 :: 184 :: 0 :: 65 :: 43 :: 180 :: dt7_10
noncomputable def dt7_8 : List Nat := 43 :: 180 :: 0 :: 40 :: 3 :: 42 :: 180 :: 0 :: 40 :: 3 :: 16 :: 40 :: 184 :: 0 :: 65 :: 43 :: dt7_9
noncomputable def dt7_7 : List Nat := 33 :: 43 :: 180 :: 0 :: 37 :: 3 :: 42 :: 180 :: 0 :: 37 :: 3 :: 16 :: 40 :: 184 :: 0 :: 65 :: dt7_8
noncomputable def dt7_6 : List Nat := 180 :: 0 :: 30 :: 3 :: 16 :: 8 :: 184 :: 0 :: 65 :: 42 :: 43 :: 180 :: 0 :: 33 :: 181 :: 0 :: dt7_7
noncomputable def dt7_5 : List Nat := 42 :: 180 :: 0 :: 27 :: 3 :: 16 :: 8 :: 184 :: 0 :: 65 :: 43 :: 180 :: 0 :: 30 :: 3 :: 42 :: dt7_6
noncomputable def dt7_4 : List Nat := 3 :: 42 :: 180 :: 0 :: 24 :: 3 :: 16 :: 8 :: 184 :: 0 :: 65 :: 43 :: 180 :: 0 :: 27 :: 3 :: dt7_5
noncomputable def dt7_3 : List Nat := 21 :: 3 :: 42 :: 180 :: 0 :: 21 :: 3 :: 16 :: 8 :: 184 :: 0 :: 65 :: 43 :: 180 :: 0 :: 24 :: dt7_4
noncomputable def dt7_2 : List Nat := 0 :: 18 :: 3 :: 42 :: 180 :: 0 :: 18 :: 3 :: 16 :: 8 :: 184 :: 0 :: 65 :: 43 :: 180 :: 0 :: dt7_3
noncomputable def dt7_1 : List Nat := 180 :: 0 :: 15 :: 3 :: 42 :: 180 :: 0 :: 15 :: 3 :: 16 :: 8 :: 184 :: 0 :: 65 :: 43 :: 180 :: dt7_2
noncomputable def dt7_0 : List Nat := 43 :: 180 :: 0 :: 9 :: 3 :: 42 :: 180 :: 0 :: 9 :: 3 :: 16 :: 8 :: 184 :: 0 :: 65 :: 43 :: dt7_1
theorem dw7_0 : dn cX2_copyFrom 0 = dt7_0 := by decide +kernel
theorem dw7_1 : dn cX2_copyFrom 16 = dt7_1 := dn_w dw7_0 16 rfl
theorem dw7_2 : dn cX2_copyFrom 32 = dt7_2 := dn_w dw7_1 16 rfl
theorem dw7_3 : dn cX2_copyFrom 48 = dt7_3 := dn_w dw7_2 16 rfl
theorem dw7_4 : dn cX2_copyFrom 64 = dt7_4 := dn_w dw7_3 16 rfl
theorem dw7_5 : dn cX2_copyFrom 80 = dt7_5 := dn_w dw7_4 16 rfl
theorem dw7_6 : dn cX2_copyFrom 96 = dt7_6 := dn_w dw7_5 16 rfl
theorem dw7_7 : dn cX2_copyFrom 112 = dt7_7 := dn_w dw7_6 16 rfl
theorem dw7_8 : dn cX2_copyFrom 128 = dt7_8 := dn_w dw7_7 16 rfl
theorem dw7_9 : dn cX2_copyFrom 144 = dt7_9 := dn_w dw7_8 16 rfl
theorem dw7_10 : dn cX2_copyFrom 160 = dt7_10 := dn_w dw7_9 16 rfl
theorem dw7_11 : dn cX2_copyFrom 176 = dt7_11 := dn_w dw7_10 16 rfl
theorem dX2_copyFrom_0 : DE cX2_copyFrom 0 (.aload_n 1) 1 := dop_43 (dn_w dw7_0 0 rfl)
theorem dX2_copyFrom_1 : DE cX2_copyFrom 1 (.getfield 9) 3 := dop_180 (dn_w dw7_0 1 rfl) rfl
theorem dX2_copyFrom_4 : DE cX2_copyFrom 4 (.iconst 0) 1 := dop_3 (dn_w dw7_0 4 rfl)
theorem dX2_copyFrom_5 : DE cX2_copyFrom 5 (.aload_n 0) 1 := dop_42 (dn_w dw7_0 5 rfl)
theorem dX2_copyFrom_6 : DE cX2_copyFrom 6 (.getfield 9) 3 := dop_180 (dn_w dw7_0 6 rfl) rfl
theorem dX2_copyFrom_9 : DE cX2_copyFrom 9 (.iconst 0) 1 := dop_3 (dn_w dw7_0 9 rfl)
theorem dX2_copyFrom_10 : DE cX2_copyFrom 10 (.bipush 8) 2 := dop_16 (dn_w dw7_0 10 rfl) rfl
theorem dX2_copyFrom_12 : DE cX2_copyFrom 12 (.invokestatic 65) 3 := dop_184 (dn_w dw7_0 12 rfl) rfl
theorem dX2_copyFrom_15 : DE cX2_copyFrom 15 (.aload_n 1) 1 := dop_43 (dn_w dw7_0 15 rfl)
theorem dX2_copyFrom_16 : DE cX2_copyFrom 16 (.getfield 15) 3 := dop_180 (dn_w dw7_1 0 rfl) rfl
theorem dX2_copyFrom_19 : DE cX2_copyFrom 19 (.iconst 0) 1 := dop_3 (dn_w dw7_1 3 rfl)
theorem dX2_copyFrom_20 : DE cX2_copyFrom 20 (.aload_n 0) 1 := dop_42 (dn_w dw7_1 4 rfl)
theorem dX2_copyFrom_21 : DE cX2_copyFrom 21 (.getfield 15) 3 := dop_180 (dn_w dw7_1 5 rfl) rfl
theorem dX2_copyFrom_24 : DE cX2_copyFrom 24 (.iconst 0) 1 := dop_3 (dn_w dw7_1 8 rfl)
theorem dX2_copyFrom_25 : DE cX2_copyFrom 25 (.bipush 8) 2 := dop_16 (dn_w dw7_1 9 rfl) rfl
theorem dX2_copyFrom_27 : DE cX2_copyFrom 27 (.invokestatic 65) 3 := dop_184 (dn_w dw7_1 11 rfl) rfl
theorem dX2_copyFrom_30 : DE cX2_copyFrom 30 (.aload_n 1) 1 := dop_43 (dn_w dw7_1 14 rfl)
theorem dX2_copyFrom_31 : DE cX2_copyFrom 31 (.getfield 18) 3 := dop_180 (dn_w dw7_1 15 rfl) rfl
theorem dX2_copyFrom_34 : DE cX2_copyFrom 34 (.iconst 0) 1 := dop_3 (dn_w dw7_2 2 rfl)
theorem dX2_copyFrom_35 : DE cX2_copyFrom 35 (.aload_n 0) 1 := dop_42 (dn_w dw7_2 3 rfl)
theorem dX2_copyFrom_36 : DE cX2_copyFrom 36 (.getfield 18) 3 := dop_180 (dn_w dw7_2 4 rfl) rfl
theorem dX2_copyFrom_39 : DE cX2_copyFrom 39 (.iconst 0) 1 := dop_3 (dn_w dw7_2 7 rfl)
theorem dX2_copyFrom_40 : DE cX2_copyFrom 40 (.bipush 8) 2 := dop_16 (dn_w dw7_2 8 rfl) rfl
theorem dX2_copyFrom_42 : DE cX2_copyFrom 42 (.invokestatic 65) 3 := dop_184 (dn_w dw7_2 10 rfl) rfl
theorem dX2_copyFrom_45 : DE cX2_copyFrom 45 (.aload_n 1) 1 := dop_43 (dn_w dw7_2 13 rfl)
theorem dX2_copyFrom_46 : DE cX2_copyFrom 46 (.getfield 21) 3 := dop_180 (dn_w dw7_2 14 rfl) rfl
theorem dX2_copyFrom_49 : DE cX2_copyFrom 49 (.iconst 0) 1 := dop_3 (dn_w dw7_3 1 rfl)
theorem dX2_copyFrom_50 : DE cX2_copyFrom 50 (.aload_n 0) 1 := dop_42 (dn_w dw7_3 2 rfl)
theorem dX2_copyFrom_51 : DE cX2_copyFrom 51 (.getfield 21) 3 := dop_180 (dn_w dw7_3 3 rfl) rfl
theorem dX2_copyFrom_54 : DE cX2_copyFrom 54 (.iconst 0) 1 := dop_3 (dn_w dw7_3 6 rfl)
theorem dX2_copyFrom_55 : DE cX2_copyFrom 55 (.bipush 8) 2 := dop_16 (dn_w dw7_3 7 rfl) rfl
theorem dX2_copyFrom_57 : DE cX2_copyFrom 57 (.invokestatic 65) 3 := dop_184 (dn_w dw7_3 9 rfl) rfl
theorem dX2_copyFrom_60 : DE cX2_copyFrom 60 (.aload_n 1) 1 := dop_43 (dn_w dw7_3 12 rfl)
theorem dX2_copyFrom_61 : DE cX2_copyFrom 61 (.getfield 24) 3 := dop_180 (dn_w dw7_3 13 rfl) rfl
theorem dX2_copyFrom_64 : DE cX2_copyFrom 64 (.iconst 0) 1 := dop_3 (dn_w dw7_4 0 rfl)
theorem dX2_copyFrom_65 : DE cX2_copyFrom 65 (.aload_n 0) 1 := dop_42 (dn_w dw7_4 1 rfl)
theorem dX2_copyFrom_66 : DE cX2_copyFrom 66 (.getfield 24) 3 := dop_180 (dn_w dw7_4 2 rfl) rfl
theorem dX2_copyFrom_69 : DE cX2_copyFrom 69 (.iconst 0) 1 := dop_3 (dn_w dw7_4 5 rfl)
theorem dX2_copyFrom_70 : DE cX2_copyFrom 70 (.bipush 8) 2 := dop_16 (dn_w dw7_4 6 rfl) rfl
theorem dX2_copyFrom_72 : DE cX2_copyFrom 72 (.invokestatic 65) 3 := dop_184 (dn_w dw7_4 8 rfl) rfl
theorem dX2_copyFrom_75 : DE cX2_copyFrom 75 (.aload_n 1) 1 := dop_43 (dn_w dw7_4 11 rfl)
theorem dX2_copyFrom_76 : DE cX2_copyFrom 76 (.getfield 27) 3 := dop_180 (dn_w dw7_4 12 rfl) rfl
theorem dX2_copyFrom_79 : DE cX2_copyFrom 79 (.iconst 0) 1 := dop_3 (dn_w dw7_4 15 rfl)
theorem dX2_copyFrom_80 : DE cX2_copyFrom 80 (.aload_n 0) 1 := dop_42 (dn_w dw7_5 0 rfl)
theorem dX2_copyFrom_81 : DE cX2_copyFrom 81 (.getfield 27) 3 := dop_180 (dn_w dw7_5 1 rfl) rfl
theorem dX2_copyFrom_84 : DE cX2_copyFrom 84 (.iconst 0) 1 := dop_3 (dn_w dw7_5 4 rfl)
theorem dX2_copyFrom_85 : DE cX2_copyFrom 85 (.bipush 8) 2 := dop_16 (dn_w dw7_5 5 rfl) rfl
theorem dX2_copyFrom_87 : DE cX2_copyFrom 87 (.invokestatic 65) 3 := dop_184 (dn_w dw7_5 7 rfl) rfl
theorem dX2_copyFrom_90 : DE cX2_copyFrom 90 (.aload_n 1) 1 := dop_43 (dn_w dw7_5 10 rfl)
theorem dX2_copyFrom_91 : DE cX2_copyFrom 91 (.getfield 30) 3 := dop_180 (dn_w dw7_5 11 rfl) rfl
theorem dX2_copyFrom_94 : DE cX2_copyFrom 94 (.iconst 0) 1 := dop_3 (dn_w dw7_5 14 rfl)
theorem dX2_copyFrom_95 : DE cX2_copyFrom 95 (.aload_n 0) 1 := dop_42 (dn_w dw7_5 15 rfl)
theorem dX2_copyFrom_96 : DE cX2_copyFrom 96 (.getfield 30) 3 := dop_180 (dn_w dw7_6 0 rfl) rfl
theorem dX2_copyFrom_99 : DE cX2_copyFrom 99 (.iconst 0) 1 := dop_3 (dn_w dw7_6 3 rfl)
theorem dX2_copyFrom_100 : DE cX2_copyFrom 100 (.bipush 8) 2 := dop_16 (dn_w dw7_6 4 rfl) rfl
theorem dX2_copyFrom_102 : DE cX2_copyFrom 102 (.invokestatic 65) 3 := dop_184 (dn_w dw7_6 6 rfl) rfl
theorem dX2_copyFrom_105 : DE cX2_copyFrom 105 (.aload_n 0) 1 := dop_42 (dn_w dw7_6 9 rfl)
theorem dX2_copyFrom_106 : DE cX2_copyFrom 106 (.aload_n 1) 1 := dop_43 (dn_w dw7_6 10 rfl)
theorem dX2_copyFrom_107 : DE cX2_copyFrom 107 (.getfield 33) 3 := dop_180 (dn_w dw7_6 11 rfl) rfl
theorem dX2_copyFrom_110 : DE cX2_copyFrom 110 (.putfield 33) 3 := dop_181 (dn_w dw7_6 14 rfl) rfl
theorem dX2_copyFrom_113 : DE cX2_copyFrom 113 (.aload_n 1) 1 := dop_43 (dn_w dw7_7 1 rfl)
theorem dX2_copyFrom_114 : DE cX2_copyFrom 114 (.getfield 37) 3 := dop_180 (dn_w dw7_7 2 rfl) rfl
theorem dX2_copyFrom_117 : DE cX2_copyFrom 117 (.iconst 0) 1 := dop_3 (dn_w dw7_7 5 rfl)
theorem dX2_copyFrom_118 : DE cX2_copyFrom 118 (.aload_n 0) 1 := dop_42 (dn_w dw7_7 6 rfl)
theorem dX2_copyFrom_119 : DE cX2_copyFrom 119 (.getfield 37) 3 := dop_180 (dn_w dw7_7 7 rfl) rfl
theorem dX2_copyFrom_122 : DE cX2_copyFrom 122 (.iconst 0) 1 := dop_3 (dn_w dw7_7 10 rfl)
theorem dX2_copyFrom_123 : DE cX2_copyFrom 123 (.bipush 40) 2 := dop_16 (dn_w dw7_7 11 rfl) rfl
theorem dX2_copyFrom_125 : DE cX2_copyFrom 125 (.invokestatic 65) 3 := dop_184 (dn_w dw7_7 13 rfl) rfl
theorem dX2_copyFrom_128 : DE cX2_copyFrom 128 (.aload_n 1) 1 := dop_43 (dn_w dw7_8 0 rfl)
theorem dX2_copyFrom_129 : DE cX2_copyFrom 129 (.getfield 40) 3 := dop_180 (dn_w dw7_8 1 rfl) rfl
theorem dX2_copyFrom_132 : DE cX2_copyFrom 132 (.iconst 0) 1 := dop_3 (dn_w dw7_8 4 rfl)
theorem dX2_copyFrom_133 : DE cX2_copyFrom 133 (.aload_n 0) 1 := dop_42 (dn_w dw7_8 5 rfl)
theorem dX2_copyFrom_134 : DE cX2_copyFrom 134 (.getfield 40) 3 := dop_180 (dn_w dw7_8 6 rfl) rfl
theorem dX2_copyFrom_137 : DE cX2_copyFrom 137 (.iconst 0) 1 := dop_3 (dn_w dw7_8 9 rfl)
theorem dX2_copyFrom_138 : DE cX2_copyFrom 138 (.bipush 40) 2 := dop_16 (dn_w dw7_8 10 rfl) rfl
theorem dX2_copyFrom_140 : DE cX2_copyFrom 140 (.invokestatic 65) 3 := dop_184 (dn_w dw7_8 12 rfl) rfl
theorem dX2_copyFrom_143 : DE cX2_copyFrom 143 (.aload_n 1) 1 := dop_43 (dn_w dw7_8 15 rfl)
theorem dX2_copyFrom_144 : DE cX2_copyFrom 144 (.getfield 43) 3 := dop_180 (dn_w dw7_9 0 rfl) rfl
theorem dX2_copyFrom_147 : DE cX2_copyFrom 147 (.iconst 0) 1 := dop_3 (dn_w dw7_9 3 rfl)
theorem dX2_copyFrom_148 : DE cX2_copyFrom 148 (.aload_n 0) 1 := dop_42 (dn_w dw7_9 4 rfl)
theorem dX2_copyFrom_149 : DE cX2_copyFrom 149 (.getfield 43) 3 := dop_180 (dn_w dw7_9 5 rfl) rfl
theorem dX2_copyFrom_152 : DE cX2_copyFrom 152 (.iconst 0) 1 := dop_3 (dn_w dw7_9 8 rfl)
theorem dX2_copyFrom_153 : DE cX2_copyFrom 153 (.bipush 40) 2 := dop_16 (dn_w dw7_9 9 rfl) rfl
theorem dX2_copyFrom_155 : DE cX2_copyFrom 155 (.invokestatic 65) 3 := dop_184 (dn_w dw7_9 11 rfl) rfl
theorem dX2_copyFrom_158 : DE cX2_copyFrom 158 (.aload_n 1) 1 := dop_43 (dn_w dw7_9 14 rfl)
theorem dX2_copyFrom_159 : DE cX2_copyFrom 159 (.getfield 46) 3 := dop_180 (dn_w dw7_9 15 rfl) rfl
theorem dX2_copyFrom_162 : DE cX2_copyFrom 162 (.iconst 0) 1 := dop_3 (dn_w dw7_10 2 rfl)
theorem dX2_copyFrom_163 : DE cX2_copyFrom 163 (.aload_n 0) 1 := dop_42 (dn_w dw7_10 3 rfl)
theorem dX2_copyFrom_164 : DE cX2_copyFrom 164 (.getfield 46) 3 := dop_180 (dn_w dw7_10 4 rfl) rfl
theorem dX2_copyFrom_167 : DE cX2_copyFrom 167 (.iconst 0) 1 := dop_3 (dn_w dw7_10 7 rfl)
theorem dX2_copyFrom_168 : DE cX2_copyFrom 168 (.iconst 4) 1 := dop_7 (dn_w dw7_10 8 rfl)
theorem dX2_copyFrom_169 : DE cX2_copyFrom 169 (.invokestatic 65) 3 := dop_184 (dn_w dw7_10 9 rfl) rfl
theorem dX2_copyFrom_172 : DE cX2_copyFrom 172 (.aload_n 0) 1 := dop_42 (dn_w dw7_10 12 rfl)
theorem dX2_copyFrom_173 : DE cX2_copyFrom 173 (.aload_n 1) 1 := dop_43 (dn_w dw7_10 13 rfl)
theorem dX2_copyFrom_174 : DE cX2_copyFrom 174 (.getfield 49) 3 := dop_180 (dn_w dw7_10 14 rfl) rfl
theorem dX2_copyFrom_177 : DE cX2_copyFrom 177 (.putfield 49) 3 := dop_181 (dn_w dw7_11 1 rfl) rfl
theorem dX2_copyFrom_180 : DE cX2_copyFrom 180 (.aload_n 0) 1 := dop_42 (dn_w dw7_11 4 rfl)
theorem dX2_copyFrom_181 : DE cX2_copyFrom 181 (.aload_n 1) 1 := dop_43 (dn_w dw7_11 5 rfl)
theorem dX2_copyFrom_182 : DE cX2_copyFrom 182 (.getfield 52) 3 := dop_180 (dn_w dw7_11 6 rfl) rfl
theorem dX2_copyFrom_185 : DE cX2_copyFrom 185 (.putfield 52) 3 := dop_181 (dn_w dw7_11 9 rfl) rfl
theorem dX2_copyFrom_188 : DE cX2_copyFrom 188 (.return_) 1 := dop_177 (dn_w dw7_11 12 rfl)
noncomputable def dt8_4 : List Nat := 181 :: 0 :: 52 :: 177 :: []
noncomputable def dt8_3 : List Nat := 46 :: 3 :: 7 :: 184 :: 0 :: 65 :: 42 :: 3 :: 181 :: 0 :: 49 :: 42 :: 43 :: 180 :: 0 :: 52 :: dt8_4
noncomputable def dt8_2 : List Nat := 3 :: 79 :: 132 :: 2 :: 1 :: 167 :: 255 :: 226 :: 43 :: 180 :: 0 :: 46 :: 3 :: 42 :: 180 :: 0 :: dt8_3
noncomputable def dt8_1 : List Nat := 37 :: 28 :: 3 :: 79 :: 42 :: 180 :: 0 :: 40 :: 28 :: 3 :: 79 :: 42 :: 180 :: 0 :: 43 :: 28 :: dt8_2
noncomputable def dt8_0 : List Nat := 42 :: 3 :: 181 :: 0 :: 33 :: 3 :: 61 :: 28 :: 16 :: 40 :: 162 :: 0 :: 30 :: 42 :: 180 :: 0 :: dt8_1
theorem dw8_0 : dn cX2_becomeEmptyAfter 0 = dt8_0 := by decide +kernel
theorem dw8_1 : dn cX2_becomeEmptyAfter 16 = dt8_1 := dn_w dw8_0 16 rfl
theorem dw8_2 : dn cX2_becomeEmptyAfter 32 = dt8_2 := dn_w dw8_1 16 rfl
theorem dw8_3 : dn cX2_becomeEmptyAfter 48 = dt8_3 := dn_w dw8_2 16 rfl
theorem dw8_4 : dn cX2_becomeEmptyAfter 64 = dt8_4 := dn_w dw8_3 16 rfl
theorem dX2_becomeEmptyAfter_0 : DE cX2_becomeEmptyAfter 0 (.aload_n 0) 1 := dop_42 (dn_w dw8_0 0 rfl)
theorem dX2_becomeEmptyAfter_1 : DE cX2_becomeEmptyAfter 1 (.iconst 0) 1 := dop_3 (dn_w dw8_0 1 rfl)
theorem dX2_becomeEmptyAfter_2 : DE cX2_becomeEmptyAfter 2 (.putfield 33) 3 := dop_181 (dn_w dw8_0 2 rfl) rfl
theorem dX2_becomeEmptyAfter_5 : DE cX2_becomeEmptyAfter 5 (.iconst 0) 1 := dop_3 (dn_w dw8_0 5 rfl)
theorem dX2_becomeEmptyAfter_6 : DE cX2_becomeEmptyAfter 6 (.istore_n 2) 1 := dop_61 (dn_w dw8_0 6 rfl)
theorem dX2_becomeEmptyAfter_7 : DE cX2_becomeEmptyAfter 7 (.iload_n 2) 1 := dop_28 (dn_w dw8_0 7 rfl)
theorem dX2_becomeEmptyAfter_8 : DE cX2_becomeEmptyAfter 8 (.bipush 40) 2 := dop_16 (dn_w dw8_0 8 rfl) rfl
theorem dX2_becomeEmptyAfter_10 : DE cX2_becomeEmptyAfter 10 (.if_icmp .ge 30) 3 := dop_162 (dn_w dw8_0 10 rfl) rfl
theorem dX2_becomeEmptyAfter_13 : DE cX2_becomeEmptyAfter 13 (.aload_n 0) 1 := dop_42 (dn_w dw8_0 13 rfl)
theorem dX2_becomeEmptyAfter_14 : DE cX2_becomeEmptyAfter 14 (.getfield 37) 3 := dop_180 (dn_w dw8_0 14 rfl) rfl
theorem dX2_becomeEmptyAfter_17 : DE cX2_becomeEmptyAfter 17 (.iload_n 2) 1 := dop_28 (dn_w dw8_1 1 rfl)
theorem dX2_becomeEmptyAfter_18 : DE cX2_becomeEmptyAfter 18 (.iconst 0) 1 := dop_3 (dn_w dw8_1 2 rfl)
theorem dX2_becomeEmptyAfter_19 : DE cX2_becomeEmptyAfter 19 (.iastore) 1 := dop_79 (dn_w dw8_1 3 rfl)
theorem dX2_becomeEmptyAfter_20 : DE cX2_becomeEmptyAfter 20 (.aload_n 0) 1 := dop_42 (dn_w dw8_1 4 rfl)
theorem dX2_becomeEmptyAfter_21 : DE cX2_becomeEmptyAfter 21 (.getfield 40) 3 := dop_180 (dn_w dw8_1 5 rfl) rfl
theorem dX2_becomeEmptyAfter_24 : DE cX2_becomeEmptyAfter 24 (.iload_n 2) 1 := dop_28 (dn_w dw8_1 8 rfl)
theorem dX2_becomeEmptyAfter_25 : DE cX2_becomeEmptyAfter 25 (.iconst 0) 1 := dop_3 (dn_w dw8_1 9 rfl)
theorem dX2_becomeEmptyAfter_26 : DE cX2_becomeEmptyAfter 26 (.iastore) 1 := dop_79 (dn_w dw8_1 10 rfl)
theorem dX2_becomeEmptyAfter_27 : DE cX2_becomeEmptyAfter 27 (.aload_n 0) 1 := dop_42 (dn_w dw8_1 11 rfl)
theorem dX2_becomeEmptyAfter_28 : DE cX2_becomeEmptyAfter 28 (.getfield 43) 3 := dop_180 (dn_w dw8_1 12 rfl) rfl
theorem dX2_becomeEmptyAfter_31 : DE cX2_becomeEmptyAfter 31 (.iload_n 2) 1 := dop_28 (dn_w dw8_1 15 rfl)
theorem dX2_becomeEmptyAfter_32 : DE cX2_becomeEmptyAfter 32 (.iconst 0) 1 := dop_3 (dn_w dw8_2 0 rfl)
theorem dX2_becomeEmptyAfter_33 : DE cX2_becomeEmptyAfter 33 (.iastore) 1 := dop_79 (dn_w dw8_2 1 rfl)
theorem dX2_becomeEmptyAfter_34 : DE cX2_becomeEmptyAfter 34 (.iinc 2 1) 3 := dop_132 (dn_w dw8_2 2 rfl) rfl
theorem dX2_becomeEmptyAfter_37 : DE cX2_becomeEmptyAfter 37 (.goto (-30)) 3 := dop_167 (dn_w dw8_2 5 rfl) rfl
theorem dX2_becomeEmptyAfter_40 : DE cX2_becomeEmptyAfter 40 (.aload_n 1) 1 := dop_43 (dn_w dw8_2 8 rfl)
theorem dX2_becomeEmptyAfter_41 : DE cX2_becomeEmptyAfter 41 (.getfield 46) 3 := dop_180 (dn_w dw8_2 9 rfl) rfl
theorem dX2_becomeEmptyAfter_44 : DE cX2_becomeEmptyAfter 44 (.iconst 0) 1 := dop_3 (dn_w dw8_2 12 rfl)
theorem dX2_becomeEmptyAfter_45 : DE cX2_becomeEmptyAfter 45 (.aload_n 0) 1 := dop_42 (dn_w dw8_2 13 rfl)
theorem dX2_becomeEmptyAfter_46 : DE cX2_becomeEmptyAfter 46 (.getfield 46) 3 := dop_180 (dn_w dw8_2 14 rfl) rfl
theorem dX2_becomeEmptyAfter_49 : DE cX2_becomeEmptyAfter 49 (.iconst 0) 1 := dop_3 (dn_w dw8_3 1 rfl)
theorem dX2_becomeEmptyAfter_50 : DE cX2_becomeEmptyAfter 50 (.iconst 4) 1 := dop_7 (dn_w dw8_3 2 rfl)
theorem dX2_becomeEmptyAfter_51 : DE cX2_becomeEmptyAfter 51 (.invokestatic 65) 3 := dop_184 (dn_w dw8_3 3 rfl) rfl
theorem dX2_becomeEmptyAfter_54 : DE cX2_becomeEmptyAfter 54 (.aload_n 0) 1 := dop_42 (dn_w dw8_3 6 rfl)
theorem dX2_becomeEmptyAfter_55 : DE cX2_becomeEmptyAfter 55 (.iconst 0) 1 := dop_3 (dn_w dw8_3 7 rfl)
theorem dX2_becomeEmptyAfter_56 : DE cX2_becomeEmptyAfter 56 (.putfield 49) 3 := dop_181 (dn_w dw8_3 8 rfl) rfl
theorem dX2_becomeEmptyAfter_59 : DE cX2_becomeEmptyAfter 59 (.aload_n 0) 1 := dop_42 (dn_w dw8_3 11 rfl)
theorem dX2_becomeEmptyAfter_60 : DE cX2_becomeEmptyAfter 60 (.aload_n 1) 1 := dop_43 (dn_w dw8_3 12 rfl)
theorem dX2_becomeEmptyAfter_61 : DE cX2_becomeEmptyAfter 61 (.getfield 52) 3 := dop_180 (dn_w dw8_3 13 rfl) rfl
theorem dX2_becomeEmptyAfter_64 : DE cX2_becomeEmptyAfter 64 (.putfield 52) 3 := dop_181 (dn_w dw8_4 0 rfl) rfl
theorem dX2_becomeEmptyAfter_67 : DE cX2_becomeEmptyAfter 67 (.return_) 1 := dop_177 (dn_w dw8_4 3 rfl)
noncomputable def dt9_1 : List Nat := 3 :: 172 :: []
noncomputable def dt9_0 : List Nat := 27 :: 155 :: 0 :: 15 :: 27 :: 42 :: 180 :: 0 :: 33 :: 162 :: 0 :: 7 :: 4 :: 167 :: 0 :: 4 :: dt9_1
theorem dw9_0 : dn cX2_hasChild 0 = dt9_0 := by decide +kernel
theorem dw9_1 : dn cX2_hasChild 16 = dt9_1 := dn_w dw9_0 16 rfl
theorem dX2_hasChild_0 : DE cX2_hasChild 0 (.iload_n 1) 1 := dop_27 (dn_w dw9_0 0 rfl)
theorem dX2_hasChild_1 : DE cX2_hasChild 1 (.ifCond .lt 15) 3 := dop_155 (dn_w dw9_0 1 rfl) rfl
theorem dX2_hasChild_4 : DE cX2_hasChild 4 (.iload_n 1) 1 := dop_27 (dn_w dw9_0 4 rfl)
theorem dX2_hasChild_5 : DE cX2_hasChild 5 (.aload_n 0) 1 := dop_42 (dn_w dw9_0 5 rfl)
theorem dX2_hasChild_6 : DE cX2_hasChild 6 (.getfield 33) 3 := dop_180 (dn_w dw9_0 6 rfl) rfl
theorem dX2_hasChild_9 : DE cX2_hasChild 9 (.if_icmp .ge 7) 3 := dop_162 (dn_w dw9_0 9 rfl) rfl
theorem dX2_hasChild_12 : DE cX2_hasChild 12 (.iconst 1) 1 := dop_4 (dn_w dw9_0 12 rfl)
theorem dX2_hasChild_13 : DE cX2_hasChild 13 (.goto 4) 3 := dop_167 (dn_w dw9_0 13 rfl) rfl
theorem dX2_hasChild_16 : DE cX2_hasChild 16 (.iconst 0) 1 := dop_3 (dn_w dw9_1 0 rfl)
theorem dX2_hasChild_17 : DE cX2_hasChild 17 (.ireturn) 1 := dop_172 (dn_w dw9_1 1 rfl)
noncomputable def dt10_5 : List Nat := 3 :: 79 :: 42 :: 89 :: 180 :: 0 :: 33 :: 4 :: 96 :: 181 :: 0 :: 33 :: 4 :: 172 :: []
noncomputable def dt10_4 : List Nat := 0 :: 27 :: 42 :: 180 :: 0 :: 33 :: 3 :: 79 :: 42 :: 180 :: 0 :: 30 :: 42 :: 180 :: 0 :: 33 :: dt10_5
noncomputable def dt10_3 : List Nat := 33 :: 21 :: 4 :: 79 :: 42 :: 180 :: 0 :: 24 :: 42 :: 180 :: 0 :: 33 :: 3 :: 79 :: 42 :: 180 :: dt10_4
noncomputable def dt10_2 : List Nat := 180 :: 0 :: 18 :: 42 :: 180 :: 0 :: 33 :: 29 :: 79 :: 42 :: 180 :: 0 :: 21 :: 42 :: 180 :: 0 :: dt10_3
noncomputable def dt10_1 : List Nat := 180 :: 0 :: 33 :: 27 :: 79 :: 42 :: 180 :: 0 :: 15 :: 42 :: 180 :: 0 :: 33 :: 28 :: 79 :: 42 :: dt10_2
noncomputable def dt10_0 : List Nat := 42 :: 180 :: 0 :: 33 :: 16 :: 8 :: 161 :: 0 :: 5 :: 3 :: 172 :: 42 :: 180 :: 0 :: 9 :: 42 :: dt10_1
theorem dw10_0 : dn cX2_addChild 0 = dt10_0 := by decide +kernel
theorem dw10_1 : dn cX2_addChild 16 = dt10_1 := dn_w dw10_0 16 rfl
theorem dw10_2 : dn cX2_addChild 32 = dt10_2 := dn_w dw10_1 16 rfl
theorem dw10_3 : dn cX2_addChild 48 = dt10_3 := dn_w dw10_2 16 rfl
theorem dw10_4 : dn cX2_addChild 64 = dt10_4 := dn_w dw10_3 16 rfl
theorem dw10_5 : dn cX2_addChild 80 = dt10_5 := dn_w dw10_4 16 rfl
theorem dX2_addChild_0 : DE cX2_addChild 0 (.aload_n 0) 1 := dop_42 (dn_w dw10_0 0 rfl)
theorem dX2_addChild_1 : DE cX2_addChild 1 (.getfield 33) 3 := dop_180 (dn_w dw10_0 1 rfl) rfl
theorem dX2_addChild_4 : DE cX2_addChild 4 (.bipush 8) 2 := dop_16 (dn_w dw10_0 4 rfl) rfl
theorem dX2_addChild_6 : DE cX2_addChild 6 (.if_icmp .lt 5) 3 := dop_161 (dn_w dw10_0 6 rfl) rfl
theorem dX2_addChild_9 : DE cX2_addChild 9 (.iconst 0) 1 := dop_3 (dn_w dw10_0 9 rfl)
theorem dX2_addChild_10 : DE cX2_addChild 10 (.ireturn) 1 := dop_172 (dn_w dw10_0 10 rfl)
theorem dX2_addChild_11 : DE cX2_addChild 11 (.aload_n 0) 1 := dop_42 (dn_w dw10_0 11 rfl)
theorem dX2_addChild_12 : DE cX2_addChild 12 (.getfield 9) 3 := dop_180 (dn_w dw10_0 12 rfl) rfl
theorem dX2_addChild_15 : DE cX2_addChild 15 (.aload_n 0) 1 := dop_42 (dn_w dw10_0 15 rfl)
theorem dX2_addChild_16 : DE cX2_addChild 16 (.getfield 33) 3 := dop_180 (dn_w dw10_1 0 rfl) rfl
theorem dX2_addChild_19 : DE cX2_addChild 19 (.iload_n 1) 1 := dop_27 (dn_w dw10_1 3 rfl)
theorem dX2_addChild_20 : DE cX2_addChild 20 (.iastore) 1 := dop_79 (dn_w dw10_1 4 rfl)
theorem dX2_addChild_21 : DE cX2_addChild 21 (.aload_n 0) 1 := dop_42 (dn_w dw10_1 5 rfl)
theorem dX2_addChild_22 : DE cX2_addChild 22 (.getfield 15) 3 := dop_180 (dn_w dw10_1 6 rfl) rfl
theorem dX2_addChild_25 : DE cX2_addChild 25 (.aload_n 0) 1 := dop_42 (dn_w dw10_1 9 rfl)
theorem dX2_addChild_26 : DE cX2_addChild 26 (.getfield 33) 3 := dop_180 (dn_w dw10_1 10 rfl) rfl
theorem dX2_addChild_29 : DE cX2_addChild 29 (.iload_n 2) 1 := dop_28 (dn_w dw10_1 13 rfl)
theorem dX2_addChild_30 : DE cX2_addChild 30 (.iastore) 1 := dop_79 (dn_w dw10_1 14 rfl)
theorem dX2_addChild_31 : DE cX2_addChild 31 (.aload_n 0) 1 := dop_42 (dn_w dw10_1 15 rfl)
theorem dX2_addChild_32 : DE cX2_addChild 32 (.getfield 18) 3 := dop_180 (dn_w dw10_2 0 rfl) rfl
theorem dX2_addChild_35 : DE cX2_addChild 35 (.aload_n 0) 1 := dop_42 (dn_w dw10_2 3 rfl)
theorem dX2_addChild_36 : DE cX2_addChild 36 (.getfield 33) 3 := dop_180 (dn_w dw10_2 4 rfl) rfl
theorem dX2_addChild_39 : DE cX2_addChild 39 (.iload_n 3) 1 := dop_29 (dn_w dw10_2 7 rfl)
theorem dX2_addChild_40 : DE cX2_addChild 40 (.iastore) 1 := dop_79 (dn_w dw10_2 8 rfl)
theorem dX2_addChild_41 : DE cX2_addChild 41 (.aload_n 0) 1 := dop_42 (dn_w dw10_2 9 rfl)
theorem dX2_addChild_42 : DE cX2_addChild 42 (.getfield 21) 3 := dop_180 (dn_w dw10_2 10 rfl) rfl
theorem dX2_addChild_45 : DE cX2_addChild 45 (.aload_n 0) 1 := dop_42 (dn_w dw10_2 13 rfl)
theorem dX2_addChild_46 : DE cX2_addChild 46 (.getfield 33) 3 := dop_180 (dn_w dw10_2 14 rfl) rfl
theorem dX2_addChild_49 : DE cX2_addChild 49 (.iload 4) 2 := dop_21 (dn_w dw10_3 1 rfl)
theorem dX2_addChild_51 : DE cX2_addChild 51 (.iastore) 1 := dop_79 (dn_w dw10_3 3 rfl)
theorem dX2_addChild_52 : DE cX2_addChild 52 (.aload_n 0) 1 := dop_42 (dn_w dw10_3 4 rfl)
theorem dX2_addChild_53 : DE cX2_addChild 53 (.getfield 24) 3 := dop_180 (dn_w dw10_3 5 rfl) rfl
theorem dX2_addChild_56 : DE cX2_addChild 56 (.aload_n 0) 1 := dop_42 (dn_w dw10_3 8 rfl)
theorem dX2_addChild_57 : DE cX2_addChild 57 (.getfield 33) 3 := dop_180 (dn_w dw10_3 9 rfl) rfl
theorem dX2_addChild_60 : DE cX2_addChild 60 (.iconst 0) 1 := dop_3 (dn_w dw10_3 12 rfl)
theorem dX2_addChild_61 : DE cX2_addChild 61 (.iastore) 1 := dop_79 (dn_w dw10_3 13 rfl)
theorem dX2_addChild_62 : DE cX2_addChild 62 (.aload_n 0) 1 := dop_42 (dn_w dw10_3 14 rfl)
theorem dX2_addChild_63 : DE cX2_addChild 63 (.getfield 27) 3 := dop_180 (dn_w dw10_3 15 rfl) rfl
theorem dX2_addChild_66 : DE cX2_addChild 66 (.aload_n 0) 1 := dop_42 (dn_w dw10_4 2 rfl)
theorem dX2_addChild_67 : DE cX2_addChild 67 (.getfield 33) 3 := dop_180 (dn_w dw10_4 3 rfl) rfl
theorem dX2_addChild_70 : DE cX2_addChild 70 (.iconst 0) 1 := dop_3 (dn_w dw10_4 6 rfl)
theorem dX2_addChild_71 : DE cX2_addChild 71 (.iastore) 1 := dop_79 (dn_w dw10_4 7 rfl)
theorem dX2_addChild_72 : DE cX2_addChild 72 (.aload_n 0) 1 := dop_42 (dn_w dw10_4 8 rfl)
theorem dX2_addChild_73 : DE cX2_addChild 73 (.getfield 30) 3 := dop_180 (dn_w dw10_4 9 rfl) rfl
theorem dX2_addChild_76 : DE cX2_addChild 76 (.aload_n 0) 1 := dop_42 (dn_w dw10_4 12 rfl)
theorem dX2_addChild_77 : DE cX2_addChild 77 (.getfield 33) 3 := dop_180 (dn_w dw10_4 13 rfl) rfl
theorem dX2_addChild_80 : DE cX2_addChild 80 (.iconst 0) 1 := dop_3 (dn_w dw10_5 0 rfl)
theorem dX2_addChild_81 : DE cX2_addChild 81 (.iastore) 1 := dop_79 (dn_w dw10_5 1 rfl)
theorem dX2_addChild_82 : DE cX2_addChild 82 (.aload_n 0) 1 := dop_42 (dn_w dw10_5 2 rfl)
theorem dX2_addChild_83 : DE cX2_addChild 83 (.dup) 1 := dop_89 (dn_w dw10_5 3 rfl)
theorem dX2_addChild_84 : DE cX2_addChild 84 (.getfield 33) 3 := dop_180 (dn_w dw10_5 4 rfl) rfl
theorem dX2_addChild_87 : DE cX2_addChild 87 (.iconst 1) 1 := dop_4 (dn_w dw10_5 7 rfl)
theorem dX2_addChild_88 : DE cX2_addChild 88 (.iadd) 1 := dop_96 (dn_w dw10_5 8 rfl)
theorem dX2_addChild_89 : DE cX2_addChild 89 (.putfield 33) 3 := dop_181 (dn_w dw10_5 9 rfl) rfl
theorem dX2_addChild_92 : DE cX2_addChild 92 (.iconst 1) 1 := dop_4 (dn_w dw10_5 12 rfl)
theorem dX2_addChild_93 : DE cX2_addChild 93 (.ireturn) 1 := dop_172 (dn_w dw10_5 13 rfl)
noncomputable def dt11_5 : List Nat := 180 :: 0 :: 27 :: 27 :: 46 :: 172 :: 42 :: 180 :: 0 :: 30 :: 27 :: 46 :: 172 :: 2 :: 172 :: []
noncomputable def dt11_4 : List Nat := 172 :: 42 :: 180 :: 0 :: 21 :: 27 :: 46 :: 172 :: 42 :: 180 :: 0 :: 24 :: 27 :: 46 :: 172 :: 42 :: dt11_5
noncomputable def dt11_3 : List Nat := 27 :: 46 :: 172 :: 42 :: 180 :: 0 :: 15 :: 27 :: 46 :: 172 :: 42 :: 180 :: 0 :: 18 :: 27 :: 46 :: dt11_4
noncomputable def dt11_2 : List Nat := 0 :: 0 :: 0 :: 71 :: 0 :: 0 :: 0 :: 78 :: 0 :: 0 :: 0 :: 85 :: 42 :: 180 :: 0 :: 9 :: dt11_3
noncomputable def dt11_1 : List Nat := 0 :: 0 :: 0 :: 43 :: 0 :: 0 :: 0 :: 50 :: 0 :: 0 :: 0 :: 57 :: 0 :: 0 :: 0 :: 64 :: dt11_2
noncomputable def dt11_0 : List Nat := 28 :: 170 :: 0 :: 0 :: 0 :: 0 :: 0 :: 92 :: 0 :: 0 :: 0 :: 0 :: 0 :: 0 :: 0 :: 6 :: dt11_1
theorem dw11_0 : dn cX2_featureOf 0 = dt11_0 := by decide +kernel
theorem dw11_1 : dn cX2_featureOf 16 = dt11_1 := dn_w dw11_0 16 rfl
theorem dw11_2 : dn cX2_featureOf 32 = dt11_2 := dn_w dw11_1 16 rfl
theorem dw11_3 : dn cX2_featureOf 48 = dt11_3 := dn_w dw11_2 16 rfl
theorem dw11_4 : dn cX2_featureOf 64 = dt11_4 := dn_w dw11_3 16 rfl
theorem dw11_5 : dn cX2_featureOf 80 = dt11_5 := dn_w dw11_4 16 rfl
theorem dX2_featureOf_0 : DE cX2_featureOf 0 (.iload_n 2) 1 := dop_28 (dn_w dw11_0 0 rfl)
theorem dX2_featureOf_1 : decode cX2_featureOf 1 = .ok (.tableswitch 92 0 6 #[43, 50, 57, 64, 71, 78, 85], 43) := by decide +kernel
theorem dX2_featureOf_44 : DE cX2_featureOf 44 (.aload_n 0) 1 := dop_42 (dn_w dw11_2 12 rfl)
theorem dX2_featureOf_45 : DE cX2_featureOf 45 (.getfield 9) 3 := dop_180 (dn_w dw11_2 13 rfl) rfl
theorem dX2_featureOf_48 : DE cX2_featureOf 48 (.iload_n 1) 1 := dop_27 (dn_w dw11_3 0 rfl)
theorem dX2_featureOf_49 : DE cX2_featureOf 49 (.iaload) 1 := dop_46 (dn_w dw11_3 1 rfl)
theorem dX2_featureOf_50 : DE cX2_featureOf 50 (.ireturn) 1 := dop_172 (dn_w dw11_3 2 rfl)
theorem dX2_featureOf_51 : DE cX2_featureOf 51 (.aload_n 0) 1 := dop_42 (dn_w dw11_3 3 rfl)
theorem dX2_featureOf_52 : DE cX2_featureOf 52 (.getfield 15) 3 := dop_180 (dn_w dw11_3 4 rfl) rfl
theorem dX2_featureOf_55 : DE cX2_featureOf 55 (.iload_n 1) 1 := dop_27 (dn_w dw11_3 7 rfl)
theorem dX2_featureOf_56 : DE cX2_featureOf 56 (.iaload) 1 := dop_46 (dn_w dw11_3 8 rfl)
theorem dX2_featureOf_57 : DE cX2_featureOf 57 (.ireturn) 1 := dop_172 (dn_w dw11_3 9 rfl)
theorem dX2_featureOf_58 : DE cX2_featureOf 58 (.aload_n 0) 1 := dop_42 (dn_w dw11_3 10 rfl)
theorem dX2_featureOf_59 : DE cX2_featureOf 59 (.getfield 18) 3 := dop_180 (dn_w dw11_3 11 rfl) rfl
theorem dX2_featureOf_62 : DE cX2_featureOf 62 (.iload_n 1) 1 := dop_27 (dn_w dw11_3 14 rfl)
theorem dX2_featureOf_63 : DE cX2_featureOf 63 (.iaload) 1 := dop_46 (dn_w dw11_3 15 rfl)
theorem dX2_featureOf_64 : DE cX2_featureOf 64 (.ireturn) 1 := dop_172 (dn_w dw11_4 0 rfl)
theorem dX2_featureOf_65 : DE cX2_featureOf 65 (.aload_n 0) 1 := dop_42 (dn_w dw11_4 1 rfl)
theorem dX2_featureOf_66 : DE cX2_featureOf 66 (.getfield 21) 3 := dop_180 (dn_w dw11_4 2 rfl) rfl
theorem dX2_featureOf_69 : DE cX2_featureOf 69 (.iload_n 1) 1 := dop_27 (dn_w dw11_4 5 rfl)
theorem dX2_featureOf_70 : DE cX2_featureOf 70 (.iaload) 1 := dop_46 (dn_w dw11_4 6 rfl)
theorem dX2_featureOf_71 : DE cX2_featureOf 71 (.ireturn) 1 := dop_172 (dn_w dw11_4 7 rfl)
theorem dX2_featureOf_72 : DE cX2_featureOf 72 (.aload_n 0) 1 := dop_42 (dn_w dw11_4 8 rfl)
theorem dX2_featureOf_73 : DE cX2_featureOf 73 (.getfield 24) 3 := dop_180 (dn_w dw11_4 9 rfl) rfl
theorem dX2_featureOf_76 : DE cX2_featureOf 76 (.iload_n 1) 1 := dop_27 (dn_w dw11_4 12 rfl)
theorem dX2_featureOf_77 : DE cX2_featureOf 77 (.iaload) 1 := dop_46 (dn_w dw11_4 13 rfl)
theorem dX2_featureOf_78 : DE cX2_featureOf 78 (.ireturn) 1 := dop_172 (dn_w dw11_4 14 rfl)
theorem dX2_featureOf_79 : DE cX2_featureOf 79 (.aload_n 0) 1 := dop_42 (dn_w dw11_4 15 rfl)
theorem dX2_featureOf_80 : DE cX2_featureOf 80 (.getfield 27) 3 := dop_180 (dn_w dw11_5 0 rfl) rfl
theorem dX2_featureOf_83 : DE cX2_featureOf 83 (.iload_n 1) 1 := dop_27 (dn_w dw11_5 3 rfl)
theorem dX2_featureOf_84 : DE cX2_featureOf 84 (.iaload) 1 := dop_46 (dn_w dw11_5 4 rfl)
theorem dX2_featureOf_85 : DE cX2_featureOf 85 (.ireturn) 1 := dop_172 (dn_w dw11_5 5 rfl)
theorem dX2_featureOf_86 : DE cX2_featureOf 86 (.aload_n 0) 1 := dop_42 (dn_w dw11_5 6 rfl)
theorem dX2_featureOf_87 : DE cX2_featureOf 87 (.getfield 30) 3 := dop_180 (dn_w dw11_5 7 rfl) rfl
theorem dX2_featureOf_90 : DE cX2_featureOf 90 (.iload_n 1) 1 := dop_27 (dn_w dw11_5 10 rfl)
theorem dX2_featureOf_91 : DE cX2_featureOf 91 (.iaload) 1 := dop_46 (dn_w dw11_5 11 rfl)
theorem dX2_featureOf_92 : DE cX2_featureOf 92 (.ireturn) 1 := dop_172 (dn_w dw11_5 12 rfl)
theorem dX2_featureOf_93 : DE cX2_featureOf 93 (.iconst (-1)) 1 := dop_2 (dn_w dw11_5 13 rfl)
theorem dX2_featureOf_94 : DE cX2_featureOf 94 (.ireturn) 1 := dop_172 (dn_w dw11_5 14 rfl)
noncomputable def dt12_0 : List Nat := 42 :: 180 :: 0 :: 49 :: 16 :: 40 :: 161 :: 0 :: 7 :: 4 :: 167 :: 0 :: 4 :: 3 :: 172 :: []
theorem dw12_0 : dn cX2_isOver 0 = dt12_0 := by decide +kernel
theorem dX2_isOver_0 : DE cX2_isOver 0 (.aload_n 0) 1 := dop_42 (dn_w dw12_0 0 rfl)
theorem dX2_isOver_1 : DE cX2_isOver 1 (.getfield 49) 3 := dop_180 (dn_w dw12_0 1 rfl) rfl
theorem dX2_isOver_4 : DE cX2_isOver 4 (.bipush 40) 2 := dop_16 (dn_w dw12_0 4 rfl) rfl
theorem dX2_isOver_6 : DE cX2_isOver 6 (.if_icmp .lt 7) 3 := dop_161 (dn_w dw12_0 6 rfl) rfl
theorem dX2_isOver_9 : DE cX2_isOver 9 (.iconst 1) 1 := dop_4 (dn_w dw12_0 9 rfl)
theorem dX2_isOver_10 : DE cX2_isOver 10 (.goto 4) 3 := dop_167 (dn_w dw12_0 10 rfl) rfl
theorem dX2_isOver_13 : DE cX2_isOver 13 (.iconst 0) 1 := dop_3 (dn_w dw12_0 13 rfl)
theorem dX2_isOver_14 : DE cX2_isOver 14 (.ireturn) 1 := dop_172 (dn_w dw12_0 14 rfl)
noncomputable def dt13_8 : List Nat := 180 :: 0 :: 58 :: 182 :: 0 :: 95 :: 172 :: []
noncomputable def dt13_7 : List Nat := 0 :: 90 :: 42 :: 180 :: 0 :: 58 :: 42 :: 180 :: 0 :: 46 :: 4 :: 46 :: 181 :: 0 :: 92 :: 42 :: dt13_8
noncomputable def dt13_6 : List Nat := 0 :: 87 :: 42 :: 180 :: 0 :: 58 :: 42 :: 180 :: 0 :: 37 :: 42 :: 180 :: 0 :: 49 :: 46 :: 181 :: dt13_7
noncomputable def dt13_5 : List Nat := 0 :: 30 :: 27 :: 46 :: 181 :: 0 :: 85 :: 42 :: 180 :: 0 :: 58 :: 42 :: 180 :: 0 :: 49 :: 181 :: dt13_6
noncomputable def dt13_4 : List Nat := 58 :: 42 :: 180 :: 0 :: 27 :: 27 :: 46 :: 181 :: 0 :: 83 :: 42 :: 180 :: 0 :: 58 :: 42 :: 180 :: dt13_5
noncomputable def dt13_3 : List Nat := 42 :: 180 :: 0 :: 58 :: 42 :: 180 :: 0 :: 24 :: 27 :: 46 :: 181 :: 0 :: 81 :: 42 :: 180 :: 0 :: dt13_4
noncomputable def dt13_2 : List Nat := 181 :: 0 :: 77 :: 42 :: 180 :: 0 :: 58 :: 42 :: 180 :: 0 :: 21 :: 27 :: 46 :: 181 :: 0 :: 79 :: dt13_3
noncomputable def dt13_1 : List Nat := 9 :: 27 :: 46 :: 181 :: 0 :: 75 :: 42 :: 180 :: 0 :: 58 :: 42 :: 180 :: 0 :: 15 :: 27 :: 46 :: dt13_2
noncomputable def dt13_0 : List Nat := 42 :: 182 :: 0 :: 71 :: 153 :: 0 :: 5 :: 3 :: 172 :: 42 :: 180 :: 0 :: 58 :: 42 :: 180 :: 0 :: dt13_1
theorem dw13_0 : dn cX2_isAway 0 = dt13_0 := by decide +kernel
theorem dw13_1 : dn cX2_isAway 16 = dt13_1 := dn_w dw13_0 16 rfl
theorem dw13_2 : dn cX2_isAway 32 = dt13_2 := dn_w dw13_1 16 rfl
theorem dw13_3 : dn cX2_isAway 48 = dt13_3 := dn_w dw13_2 16 rfl
theorem dw13_4 : dn cX2_isAway 64 = dt13_4 := dn_w dw13_3 16 rfl
theorem dw13_5 : dn cX2_isAway 80 = dt13_5 := dn_w dw13_4 16 rfl
theorem dw13_6 : dn cX2_isAway 96 = dt13_6 := dn_w dw13_5 16 rfl
theorem dw13_7 : dn cX2_isAway 112 = dt13_7 := dn_w dw13_6 16 rfl
theorem dw13_8 : dn cX2_isAway 128 = dt13_8 := dn_w dw13_7 16 rfl
theorem dX2_isAway_0 : DE cX2_isAway 0 (.aload_n 0) 1 := dop_42 (dn_w dw13_0 0 rfl)
theorem dX2_isAway_1 : DE cX2_isAway 1 (.invokevirtual 71) 3 := dop_182 (dn_w dw13_0 1 rfl) rfl
theorem dX2_isAway_4 : DE cX2_isAway 4 (.ifCond .eq 5) 3 := dop_153 (dn_w dw13_0 4 rfl) rfl
theorem dX2_isAway_7 : DE cX2_isAway 7 (.iconst 0) 1 := dop_3 (dn_w dw13_0 7 rfl)
theorem dX2_isAway_8 : DE cX2_isAway 8 (.ireturn) 1 := dop_172 (dn_w dw13_0 8 rfl)
theorem dX2_isAway_9 : DE cX2_isAway 9 (.aload_n 0) 1 := dop_42 (dn_w dw13_0 9 rfl)
theorem dX2_isAway_10 : DE cX2_isAway 10 (.getfield 58) 3 := dop_180 (dn_w dw13_0 10 rfl) rfl
theorem dX2_isAway_13 : DE cX2_isAway 13 (.aload_n 0) 1 := dop_42 (dn_w dw13_0 13 rfl)
theorem dX2_isAway_14 : DE cX2_isAway 14 (.getfield 9) 3 := dop_180 (dn_w dw13_0 14 rfl) rfl
theorem dX2_isAway_17 : DE cX2_isAway 17 (.iload_n 1) 1 := dop_27 (dn_w dw13_1 1 rfl)
theorem dX2_isAway_18 : DE cX2_isAway 18 (.iaload) 1 := dop_46 (dn_w dw13_1 2 rfl)
theorem dX2_isAway_19 : DE cX2_isAway 19 (.putfield 75) 3 := dop_181 (dn_w dw13_1 3 rfl) rfl
theorem dX2_isAway_22 : DE cX2_isAway 22 (.aload_n 0) 1 := dop_42 (dn_w dw13_1 6 rfl)
theorem dX2_isAway_23 : DE cX2_isAway 23 (.getfield 58) 3 := dop_180 (dn_w dw13_1 7 rfl) rfl
theorem dX2_isAway_26 : DE cX2_isAway 26 (.aload_n 0) 1 := dop_42 (dn_w dw13_1 10 rfl)
theorem dX2_isAway_27 : DE cX2_isAway 27 (.getfield 15) 3 := dop_180 (dn_w dw13_1 11 rfl) rfl
theorem dX2_isAway_30 : DE cX2_isAway 30 (.iload_n 1) 1 := dop_27 (dn_w dw13_1 14 rfl)
theorem dX2_isAway_31 : DE cX2_isAway 31 (.iaload) 1 := dop_46 (dn_w dw13_1 15 rfl)
theorem dX2_isAway_32 : DE cX2_isAway 32 (.putfield 77) 3 := dop_181 (dn_w dw13_2 0 rfl) rfl
theorem dX2_isAway_35 : DE cX2_isAway 35 (.aload_n 0) 1 := dop_42 (dn_w dw13_2 3 rfl)
theorem dX2_isAway_36 : DE cX2_isAway 36 (.getfield 58) 3 := dop_180 (dn_w dw13_2 4 rfl) rfl
theorem dX2_isAway_39 : DE cX2_isAway 39 (.aload_n 0) 1 := dop_42 (dn_w dw13_2 7 rfl)
theorem dX2_isAway_40 : DE cX2_isAway 40 (.getfield 21) 3 := dop_180 (dn_w dw13_2 8 rfl) rfl
theorem dX2_isAway_43 : DE cX2_isAway 43 (.iload_n 1) 1 := dop_27 (dn_w dw13_2 11 rfl)
theorem dX2_isAway_44 : DE cX2_isAway 44 (.iaload) 1 := dop_46 (dn_w dw13_2 12 rfl)
theorem dX2_isAway_45 : DE cX2_isAway 45 (.putfield 79) 3 := dop_181 (dn_w dw13_2 13 rfl) rfl
theorem dX2_isAway_48 : DE cX2_isAway 48 (.aload_n 0) 1 := dop_42 (dn_w dw13_3 0 rfl)
theorem dX2_isAway_49 : DE cX2_isAway 49 (.getfield 58) 3 := dop_180 (dn_w dw13_3 1 rfl) rfl
theorem dX2_isAway_52 : DE cX2_isAway 52 (.aload_n 0) 1 := dop_42 (dn_w dw13_3 4 rfl)
theorem dX2_isAway_53 : DE cX2_isAway 53 (.getfield 24) 3 := dop_180 (dn_w dw13_3 5 rfl) rfl
theorem dX2_isAway_56 : DE cX2_isAway 56 (.iload_n 1) 1 := dop_27 (dn_w dw13_3 8 rfl)
theorem dX2_isAway_57 : DE cX2_isAway 57 (.iaload) 1 := dop_46 (dn_w dw13_3 9 rfl)
theorem dX2_isAway_58 : DE cX2_isAway 58 (.putfield 81) 3 := dop_181 (dn_w dw13_3 10 rfl) rfl
theorem dX2_isAway_61 : DE cX2_isAway 61 (.aload_n 0) 1 := dop_42 (dn_w dw13_3 13 rfl)
theorem dX2_isAway_62 : DE cX2_isAway 62 (.getfield 58) 3 := dop_180 (dn_w dw13_3 14 rfl) rfl
theorem dX2_isAway_65 : DE cX2_isAway 65 (.aload_n 0) 1 := dop_42 (dn_w dw13_4 1 rfl)
theorem dX2_isAway_66 : DE cX2_isAway 66 (.getfield 27) 3 := dop_180 (dn_w dw13_4 2 rfl) rfl
theorem dX2_isAway_69 : DE cX2_isAway 69 (.iload_n 1) 1 := dop_27 (dn_w dw13_4 5 rfl)
theorem dX2_isAway_70 : DE cX2_isAway 70 (.iaload) 1 := dop_46 (dn_w dw13_4 6 rfl)
theorem dX2_isAway_71 : DE cX2_isAway 71 (.putfield 83) 3 := dop_181 (dn_w dw13_4 7 rfl) rfl
theorem dX2_isAway_74 : DE cX2_isAway 74 (.aload_n 0) 1 := dop_42 (dn_w dw13_4 10 rfl)
theorem dX2_isAway_75 : DE cX2_isAway 75 (.getfield 58) 3 := dop_180 (dn_w dw13_4 11 rfl) rfl
theorem dX2_isAway_78 : DE cX2_isAway 78 (.aload_n 0) 1 := dop_42 (dn_w dw13_4 14 rfl)
theorem dX2_isAway_79 : DE cX2_isAway 79 (.getfield 30) 3 := dop_180 (dn_w dw13_4 15 rfl) rfl
theorem dX2_isAway_82 : DE cX2_isAway 82 (.iload_n 1) 1 := dop_27 (dn_w dw13_5 2 rfl)
theorem dX2_isAway_83 : DE cX2_isAway 83 (.iaload) 1 := dop_46 (dn_w dw13_5 3 rfl)
theorem dX2_isAway_84 : DE cX2_isAway 84 (.putfield 85) 3 := dop_181 (dn_w dw13_5 4 rfl) rfl
theorem dX2_isAway_87 : DE cX2_isAway 87 (.aload_n 0) 1 := dop_42 (dn_w dw13_5 7 rfl)
theorem dX2_isAway_88 : DE cX2_isAway 88 (.getfield 58) 3 := dop_180 (dn_w dw13_5 8 rfl) rfl
theorem dX2_isAway_91 : DE cX2_isAway 91 (.aload_n 0) 1 := dop_42 (dn_w dw13_5 11 rfl)
theorem dX2_isAway_92 : DE cX2_isAway 92 (.getfield 49) 3 := dop_180 (dn_w dw13_5 12 rfl) rfl
theorem dX2_isAway_95 : DE cX2_isAway 95 (.putfield 87) 3 := dop_181 (dn_w dw13_5 15 rfl) rfl
theorem dX2_isAway_98 : DE cX2_isAway 98 (.aload_n 0) 1 := dop_42 (dn_w dw13_6 2 rfl)
theorem dX2_isAway_99 : DE cX2_isAway 99 (.getfield 58) 3 := dop_180 (dn_w dw13_6 3 rfl) rfl
theorem dX2_isAway_102 : DE cX2_isAway 102 (.aload_n 0) 1 := dop_42 (dn_w dw13_6 6 rfl)
theorem dX2_isAway_103 : DE cX2_isAway 103 (.getfield 37) 3 := dop_180 (dn_w dw13_6 7 rfl) rfl
theorem dX2_isAway_106 : DE cX2_isAway 106 (.aload_n 0) 1 := dop_42 (dn_w dw13_6 10 rfl)
theorem dX2_isAway_107 : DE cX2_isAway 107 (.getfield 49) 3 := dop_180 (dn_w dw13_6 11 rfl) rfl
theorem dX2_isAway_110 : DE cX2_isAway 110 (.iaload) 1 := dop_46 (dn_w dw13_6 14 rfl)
theorem dX2_isAway_111 : DE cX2_isAway 111 (.putfield 90) 3 := dop_181 (dn_w dw13_6 15 rfl) rfl
theorem dX2_isAway_114 : DE cX2_isAway 114 (.aload_n 0) 1 := dop_42 (dn_w dw13_7 2 rfl)
theorem dX2_isAway_115 : DE cX2_isAway 115 (.getfield 58) 3 := dop_180 (dn_w dw13_7 3 rfl) rfl
theorem dX2_isAway_118 : DE cX2_isAway 118 (.aload_n 0) 1 := dop_42 (dn_w dw13_7 6 rfl)
theorem dX2_isAway_119 : DE cX2_isAway 119 (.getfield 46) 3 := dop_180 (dn_w dw13_7 7 rfl) rfl
theorem dX2_isAway_122 : DE cX2_isAway 122 (.iconst 1) 1 := dop_4 (dn_w dw13_7 10 rfl)
theorem dX2_isAway_123 : DE cX2_isAway 123 (.iaload) 1 := dop_46 (dn_w dw13_7 11 rfl)
theorem dX2_isAway_124 : DE cX2_isAway 124 (.putfield 92) 3 := dop_181 (dn_w dw13_7 12 rfl) rfl
theorem dX2_isAway_127 : DE cX2_isAway 127 (.aload_n 0) 1 := dop_42 (dn_w dw13_7 15 rfl)
theorem dX2_isAway_128 : DE cX2_isAway 128 (.getfield 58) 3 := dop_180 (dn_w dw13_8 0 rfl) rfl
theorem dX2_isAway_131 : DE cX2_isAway 131 (.invokevirtual 95) 3 := dop_182 (dn_w dw13_8 3 rfl) rfl
theorem dX2_isAway_134 : DE cX2_isAway 134 (.ireturn) 1 := dop_172 (dn_w dw13_8 6 rfl)
noncomputable def dt14_2 : List Nat := 27 :: 172 :: []
noncomputable def dt14_1 : List Nat := 98 :: 154 :: 0 :: 9 :: 27 :: 4 :: 28 :: 120 :: 128 :: 60 :: 132 :: 2 :: 1 :: 167 :: 255 :: 231 :: dt14_2
noncomputable def dt14_0 : List Nat := 3 :: 60 :: 3 :: 61 :: 28 :: 42 :: 180 :: 0 :: 33 :: 162 :: 0 :: 23 :: 42 :: 28 :: 182 :: 0 :: dt14_1
theorem dw14_0 : dn cX2_thereToday 0 = dt14_0 := by decide +kernel
theorem dw14_1 : dn cX2_thereToday 16 = dt14_1 := dn_w dw14_0 16 rfl
theorem dw14_2 : dn cX2_thereToday 32 = dt14_2 := dn_w dw14_1 16 rfl
theorem dX2_thereToday_0 : DE cX2_thereToday 0 (.iconst 0) 1 := dop_3 (dn_w dw14_0 0 rfl)
theorem dX2_thereToday_1 : DE cX2_thereToday 1 (.istore_n 1) 1 := dop_60 (dn_w dw14_0 1 rfl)
theorem dX2_thereToday_2 : DE cX2_thereToday 2 (.iconst 0) 1 := dop_3 (dn_w dw14_0 2 rfl)
theorem dX2_thereToday_3 : DE cX2_thereToday 3 (.istore_n 2) 1 := dop_61 (dn_w dw14_0 3 rfl)
theorem dX2_thereToday_4 : DE cX2_thereToday 4 (.iload_n 2) 1 := dop_28 (dn_w dw14_0 4 rfl)
theorem dX2_thereToday_5 : DE cX2_thereToday 5 (.aload_n 0) 1 := dop_42 (dn_w dw14_0 5 rfl)
theorem dX2_thereToday_6 : DE cX2_thereToday 6 (.getfield 33) 3 := dop_180 (dn_w dw14_0 6 rfl) rfl
theorem dX2_thereToday_9 : DE cX2_thereToday 9 (.if_icmp .ge 23) 3 := dop_162 (dn_w dw14_0 9 rfl) rfl
theorem dX2_thereToday_12 : DE cX2_thereToday 12 (.aload_n 0) 1 := dop_42 (dn_w dw14_0 12 rfl)
theorem dX2_thereToday_13 : DE cX2_thereToday 13 (.iload_n 2) 1 := dop_28 (dn_w dw14_0 13 rfl)
theorem dX2_thereToday_14 : DE cX2_thereToday 14 (.invokevirtual 98) 3 := dop_182 (dn_w dw14_0 14 rfl) rfl
theorem dX2_thereToday_17 : DE cX2_thereToday 17 (.ifCond .ne 9) 3 := dop_154 (dn_w dw14_1 1 rfl) rfl
theorem dX2_thereToday_20 : DE cX2_thereToday 20 (.iload_n 1) 1 := dop_27 (dn_w dw14_1 4 rfl)
theorem dX2_thereToday_21 : DE cX2_thereToday 21 (.iconst 1) 1 := dop_4 (dn_w dw14_1 5 rfl)
theorem dX2_thereToday_22 : DE cX2_thereToday 22 (.iload_n 2) 1 := dop_28 (dn_w dw14_1 6 rfl)
theorem dX2_thereToday_23 : DE cX2_thereToday 23 (.ishl) 1 := dop_120 (dn_w dw14_1 7 rfl)
theorem dX2_thereToday_24 : DE cX2_thereToday 24 (.ior) 1 := dop_128 (dn_w dw14_1 8 rfl)
theorem dX2_thereToday_25 : DE cX2_thereToday 25 (.istore_n 1) 1 := dop_60 (dn_w dw14_1 9 rfl)
theorem dX2_thereToday_26 : DE cX2_thereToday 26 (.iinc 2 1) 3 := dop_132 (dn_w dw14_1 10 rfl) rfl
theorem dX2_thereToday_29 : DE cX2_thereToday 29 (.goto (-25)) 3 := dop_167 (dn_w dw14_1 13 rfl) rfl
theorem dX2_thereToday_32 : DE cX2_thereToday 32 (.iload_n 1) 1 := dop_27 (dn_w dw14_2 0 rfl)
theorem dX2_thereToday_33 : DE cX2_thereToday 33 (.ireturn) 1 := dop_172 (dn_w dw14_2 1 rfl)
noncomputable def dt15_2 : List Nat := 230 :: 27 :: 172 :: []
noncomputable def dt15_1 : List Nat := 28 :: 46 :: 158 :: 0 :: 9 :: 27 :: 4 :: 28 :: 120 :: 128 :: 60 :: 132 :: 2 :: 1 :: 167 :: 255 :: dt15_2
noncomputable def dt15_0 : List Nat := 3 :: 60 :: 3 :: 61 :: 28 :: 42 :: 180 :: 0 :: 33 :: 162 :: 0 :: 24 :: 42 :: 180 :: 0 :: 24 :: dt15_1
theorem dw15_0 : dn cX2_sickNow 0 = dt15_0 := by decide +kernel
theorem dw15_1 : dn cX2_sickNow 16 = dt15_1 := dn_w dw15_0 16 rfl
theorem dw15_2 : dn cX2_sickNow 32 = dt15_2 := dn_w dw15_1 16 rfl
theorem dX2_sickNow_0 : DE cX2_sickNow 0 (.iconst 0) 1 := dop_3 (dn_w dw15_0 0 rfl)
theorem dX2_sickNow_1 : DE cX2_sickNow 1 (.istore_n 1) 1 := dop_60 (dn_w dw15_0 1 rfl)
theorem dX2_sickNow_2 : DE cX2_sickNow 2 (.iconst 0) 1 := dop_3 (dn_w dw15_0 2 rfl)
theorem dX2_sickNow_3 : DE cX2_sickNow 3 (.istore_n 2) 1 := dop_61 (dn_w dw15_0 3 rfl)
theorem dX2_sickNow_4 : DE cX2_sickNow 4 (.iload_n 2) 1 := dop_28 (dn_w dw15_0 4 rfl)
theorem dX2_sickNow_5 : DE cX2_sickNow 5 (.aload_n 0) 1 := dop_42 (dn_w dw15_0 5 rfl)
theorem dX2_sickNow_6 : DE cX2_sickNow 6 (.getfield 33) 3 := dop_180 (dn_w dw15_0 6 rfl) rfl
theorem dX2_sickNow_9 : DE cX2_sickNow 9 (.if_icmp .ge 24) 3 := dop_162 (dn_w dw15_0 9 rfl) rfl
theorem dX2_sickNow_12 : DE cX2_sickNow 12 (.aload_n 0) 1 := dop_42 (dn_w dw15_0 12 rfl)
theorem dX2_sickNow_13 : DE cX2_sickNow 13 (.getfield 24) 3 := dop_180 (dn_w dw15_0 13 rfl) rfl
theorem dX2_sickNow_16 : DE cX2_sickNow 16 (.iload_n 2) 1 := dop_28 (dn_w dw15_1 0 rfl)
theorem dX2_sickNow_17 : DE cX2_sickNow 17 (.iaload) 1 := dop_46 (dn_w dw15_1 1 rfl)
theorem dX2_sickNow_18 : DE cX2_sickNow 18 (.ifCond .le 9) 3 := dop_158 (dn_w dw15_1 2 rfl) rfl
theorem dX2_sickNow_21 : DE cX2_sickNow 21 (.iload_n 1) 1 := dop_27 (dn_w dw15_1 5 rfl)
theorem dX2_sickNow_22 : DE cX2_sickNow 22 (.iconst 1) 1 := dop_4 (dn_w dw15_1 6 rfl)
theorem dX2_sickNow_23 : DE cX2_sickNow 23 (.iload_n 2) 1 := dop_28 (dn_w dw15_1 7 rfl)
theorem dX2_sickNow_24 : DE cX2_sickNow 24 (.ishl) 1 := dop_120 (dn_w dw15_1 8 rfl)
theorem dX2_sickNow_25 : DE cX2_sickNow 25 (.ior) 1 := dop_128 (dn_w dw15_1 9 rfl)
theorem dX2_sickNow_26 : DE cX2_sickNow 26 (.istore_n 1) 1 := dop_60 (dn_w dw15_1 10 rfl)
theorem dX2_sickNow_27 : DE cX2_sickNow 27 (.iinc 2 1) 3 := dop_132 (dn_w dw15_1 11 rfl) rfl
theorem dX2_sickNow_30 : DE cX2_sickNow 30 (.goto (-26)) 3 := dop_167 (dn_w dw15_1 14 rfl) rfl
theorem dX2_sickNow_33 : DE cX2_sickNow 33 (.iload_n 1) 1 := dop_27 (dn_w dw15_2 1 rfl)
theorem dX2_sickNow_34 : DE cX2_sickNow 34 (.ireturn) 1 := dop_172 (dn_w dw15_2 2 rfl)
noncomputable def dt16_8 : List Nat := 96 :: 181 :: 0 :: 49 :: 27 :: 172 :: []
noncomputable def dt16_7 : List Nat := 3 :: 1 :: 167 :: 255 :: 183 :: 42 :: 28 :: 182 :: 0 :: 115 :: 42 :: 89 :: 180 :: 0 :: 49 :: 4 :: dt16_8
noncomputable def dt16_6 : List Nat := 27 :: 29 :: 3 :: 42 :: 180 :: 0 :: 27 :: 29 :: 46 :: 4 :: 100 :: 184 :: 0 :: 109 :: 79 :: 132 :: dt16_7
noncomputable def dt16_5 : List Nat := 3 :: 42 :: 180 :: 0 :: 24 :: 29 :: 46 :: 4 :: 100 :: 184 :: 0 :: 109 :: 79 :: 42 :: 180 :: 0 :: dt16_6
noncomputable def dt16_4 : List Nat := 0 :: 11 :: 42 :: 180 :: 0 :: 30 :: 29 :: 46 :: 4 :: 96 :: 79 :: 42 :: 180 :: 0 :: 24 :: 29 :: dt16_5
noncomputable def dt16_3 : List Nat := 71 :: 42 :: 180 :: 0 :: 30 :: 29 :: 27 :: 29 :: 122 :: 4 :: 126 :: 153 :: 0 :: 7 :: 3 :: 167 :: dt16_4
noncomputable def dt16_2 : List Nat := 43 :: 42 :: 180 :: 0 :: 49 :: 27 :: 79 :: 3 :: 62 :: 29 :: 42 :: 180 :: 0 :: 33 :: 162 :: 0 :: dt16_3
noncomputable def dt16_1 : List Nat := 0 :: 106 :: 61 :: 42 :: 180 :: 0 :: 40 :: 42 :: 180 :: 0 :: 49 :: 27 :: 79 :: 42 :: 180 :: 0 :: dt16_2
noncomputable def dt16_0 : List Nat := 42 :: 182 :: 0 :: 71 :: 153 :: 0 :: 5 :: 3 :: 172 :: 42 :: 182 :: 0 :: 102 :: 60 :: 42 :: 182 :: dt16_1
theorem dw16_0 : dn cX2_goOneDay 0 = dt16_0 := by decide +kernel
theorem dw16_1 : dn cX2_goOneDay 16 = dt16_1 := dn_w dw16_0 16 rfl
theorem dw16_2 : dn cX2_goOneDay 32 = dt16_2 := dn_w dw16_1 16 rfl
theorem dw16_3 : dn cX2_goOneDay 48 = dt16_3 := dn_w dw16_2 16 rfl
theorem dw16_4 : dn cX2_goOneDay 64 = dt16_4 := dn_w dw16_3 16 rfl
theorem dw16_5 : dn cX2_goOneDay 80 = dt16_5 := dn_w dw16_4 16 rfl
theorem dw16_6 : dn cX2_goOneDay 96 = dt16_6 := dn_w dw16_5 16 rfl
theorem dw16_7 : dn cX2_goOneDay 112 = dt16_7 := dn_w dw16_6 16 rfl
theorem dw16_8 : dn cX2_goOneDay 128 = dt16_8 := dn_w dw16_7 16 rfl
theorem dX2_goOneDay_0 : DE cX2_goOneDay 0 (.aload_n 0) 1 := dop_42 (dn_w dw16_0 0 rfl)
theorem dX2_goOneDay_1 : DE cX2_goOneDay 1 (.invokevirtual 71) 3 := dop_182 (dn_w dw16_0 1 rfl) rfl
theorem dX2_goOneDay_4 : DE cX2_goOneDay 4 (.ifCond .eq 5) 3 := dop_153 (dn_w dw16_0 4 rfl) rfl
theorem dX2_goOneDay_7 : DE cX2_goOneDay 7 (.iconst 0) 1 := dop_3 (dn_w dw16_0 7 rfl)
theorem dX2_goOneDay_8 : DE cX2_goOneDay 8 (.ireturn) 1 := dop_172 (dn_w dw16_0 8 rfl)
theorem dX2_goOneDay_9 : DE cX2_goOneDay 9 (.aload_n 0) 1 := dop_42 (dn_w dw16_0 9 rfl)
theorem dX2_goOneDay_10 : DE cX2_goOneDay 10 (.invokevirtual 102) 3 := dop_182 (dn_w dw16_0 10 rfl) rfl
theorem dX2_goOneDay_13 : DE cX2_goOneDay 13 (.istore_n 1) 1 := dop_60 (dn_w dw16_0 13 rfl)
theorem dX2_goOneDay_14 : DE cX2_goOneDay 14 (.aload_n 0) 1 := dop_42 (dn_w dw16_0 14 rfl)
theorem dX2_goOneDay_15 : DE cX2_goOneDay 15 (.invokevirtual 106) 3 := dop_182 (dn_w dw16_0 15 rfl) rfl
theorem dX2_goOneDay_18 : DE cX2_goOneDay 18 (.istore_n 2) 1 := dop_61 (dn_w dw16_1 2 rfl)
theorem dX2_goOneDay_19 : DE cX2_goOneDay 19 (.aload_n 0) 1 := dop_42 (dn_w dw16_1 3 rfl)
theorem dX2_goOneDay_20 : DE cX2_goOneDay 20 (.getfield 40) 3 := dop_180 (dn_w dw16_1 4 rfl) rfl
theorem dX2_goOneDay_23 : DE cX2_goOneDay 23 (.aload_n 0) 1 := dop_42 (dn_w dw16_1 7 rfl)
theorem dX2_goOneDay_24 : DE cX2_goOneDay 24 (.getfield 49) 3 := dop_180 (dn_w dw16_1 8 rfl) rfl
theorem dX2_goOneDay_27 : DE cX2_goOneDay 27 (.iload_n 1) 1 := dop_27 (dn_w dw16_1 11 rfl)
theorem dX2_goOneDay_28 : DE cX2_goOneDay 28 (.iastore) 1 := dop_79 (dn_w dw16_1 12 rfl)
theorem dX2_goOneDay_29 : DE cX2_goOneDay 29 (.aload_n 0) 1 := dop_42 (dn_w dw16_1 13 rfl)
theorem dX2_goOneDay_30 : DE cX2_goOneDay 30 (.getfield 43) 3 := dop_180 (dn_w dw16_1 14 rfl) rfl
theorem dX2_goOneDay_33 : DE cX2_goOneDay 33 (.aload_n 0) 1 := dop_42 (dn_w dw16_2 1 rfl)
theorem dX2_goOneDay_34 : DE cX2_goOneDay 34 (.getfield 49) 3 := dop_180 (dn_w dw16_2 2 rfl) rfl
theorem dX2_goOneDay_37 : DE cX2_goOneDay 37 (.iload_n 1) 1 := dop_27 (dn_w dw16_2 5 rfl)
theorem dX2_goOneDay_38 : DE cX2_goOneDay 38 (.iastore) 1 := dop_79 (dn_w dw16_2 6 rfl)
theorem dX2_goOneDay_39 : DE cX2_goOneDay 39 (.iconst 0) 1 := dop_3 (dn_w dw16_2 7 rfl)
theorem dX2_goOneDay_40 : DE cX2_goOneDay 40 (.istore_n 3) 1 := dop_62 (dn_w dw16_2 8 rfl)
theorem dX2_goOneDay_41 : DE cX2_goOneDay 41 (.iload_n 3) 1 := dop_29 (dn_w dw16_2 9 rfl)
theorem dX2_goOneDay_42 : DE cX2_goOneDay 42 (.aload_n 0) 1 := dop_42 (dn_w dw16_2 10 rfl)
theorem dX2_goOneDay_43 : DE cX2_goOneDay 43 (.getfield 33) 3 := dop_180 (dn_w dw16_2 11 rfl) rfl
theorem dX2_goOneDay_46 : DE cX2_goOneDay 46 (.if_icmp .ge 71) 3 := dop_162 (dn_w dw16_2 14 rfl) rfl
theorem dX2_goOneDay_49 : DE cX2_goOneDay 49 (.aload_n 0) 1 := dop_42 (dn_w dw16_3 1 rfl)
theorem dX2_goOneDay_50 : DE cX2_goOneDay 50 (.getfield 30) 3 := dop_180 (dn_w dw16_3 2 rfl) rfl
theorem dX2_goOneDay_53 : DE cX2_goOneDay 53 (.iload_n 3) 1 := dop_29 (dn_w dw16_3 5 rfl)
theorem dX2_goOneDay_54 : DE cX2_goOneDay 54 (.iload_n 1) 1 := dop_27 (dn_w dw16_3 6 rfl)
theorem dX2_goOneDay_55 : DE cX2_goOneDay 55 (.iload_n 3) 1 := dop_29 (dn_w dw16_3 7 rfl)
theorem dX2_goOneDay_56 : DE cX2_goOneDay 56 (.ishr) 1 := dop_122 (dn_w dw16_3 8 rfl)
theorem dX2_goOneDay_57 : DE cX2_goOneDay 57 (.iconst 1) 1 := dop_4 (dn_w dw16_3 9 rfl)
theorem dX2_goOneDay_58 : DE cX2_goOneDay 58 (.iand) 1 := dop_126 (dn_w dw16_3 10 rfl)
theorem dX2_goOneDay_59 : DE cX2_goOneDay 59 (.ifCond .eq 7) 3 := dop_153 (dn_w dw16_3 11 rfl) rfl
theorem dX2_goOneDay_62 : DE cX2_goOneDay 62 (.iconst 0) 1 := dop_3 (dn_w dw16_3 14 rfl)
theorem dX2_goOneDay_63 : DE cX2_goOneDay 63 (.goto 11) 3 := dop_167 (dn_w dw16_3 15 rfl) rfl
theorem dX2_goOneDay_66 : DE cX2_goOneDay 66 (.aload_n 0) 1 := dop_42 (dn_w dw16_4 2 rfl)
theorem dX2_goOneDay_67 : DE cX2_goOneDay 67 (.getfield 30) 3 := dop_180 (dn_w dw16_4 3 rfl) rfl
theorem dX2_goOneDay_70 : DE cX2_goOneDay 70 (.iload_n 3) 1 := dop_29 (dn_w dw16_4 6 rfl)
theorem dX2_goOneDay_71 : DE cX2_goOneDay 71 (.iaload) 1 := dop_46 (dn_w dw16_4 7 rfl)
theorem dX2_goOneDay_72 : DE cX2_goOneDay 72 (.iconst 1) 1 := dop_4 (dn_w dw16_4 8 rfl)
theorem dX2_goOneDay_73 : DE cX2_goOneDay 73 (.iadd) 1 := dop_96 (dn_w dw16_4 9 rfl)
theorem dX2_goOneDay_74 : DE cX2_goOneDay 74 (.iastore) 1 := dop_79 (dn_w dw16_4 10 rfl)
theorem dX2_goOneDay_75 : DE cX2_goOneDay 75 (.aload_n 0) 1 := dop_42 (dn_w dw16_4 11 rfl)
theorem dX2_goOneDay_76 : DE cX2_goOneDay 76 (.getfield 24) 3 := dop_180 (dn_w dw16_4 12 rfl) rfl
theorem dX2_goOneDay_79 : DE cX2_goOneDay 79 (.iload_n 3) 1 := dop_29 (dn_w dw16_4 15 rfl)
theorem dX2_goOneDay_80 : DE cX2_goOneDay 80 (.iconst 0) 1 := dop_3 (dn_w dw16_5 0 rfl)
theorem dX2_goOneDay_81 : DE cX2_goOneDay 81 (.aload_n 0) 1 := dop_42 (dn_w dw16_5 1 rfl)
theorem dX2_goOneDay_82 : DE cX2_goOneDay 82 (.getfield 24) 3 := dop_180 (dn_w dw16_5 2 rfl) rfl
theorem dX2_goOneDay_85 : DE cX2_goOneDay 85 (.iload_n 3) 1 := dop_29 (dn_w dw16_5 5 rfl)
theorem dX2_goOneDay_86 : DE cX2_goOneDay 86 (.iaload) 1 := dop_46 (dn_w dw16_5 6 rfl)
theorem dX2_goOneDay_87 : DE cX2_goOneDay 87 (.iconst 1) 1 := dop_4 (dn_w dw16_5 7 rfl)
theorem dX2_goOneDay_88 : DE cX2_goOneDay 88 (.isub) 1 := dop_100 (dn_w dw16_5 8 rfl)
theorem dX2_goOneDay_89 : DE cX2_goOneDay 89 (.invokestatic 109) 3 := dop_184 (dn_w dw16_5 9 rfl) rfl
theorem dX2_goOneDay_92 : DE cX2_goOneDay 92 (.iastore) 1 := dop_79 (dn_w dw16_5 12 rfl)
theorem dX2_goOneDay_93 : DE cX2_goOneDay 93 (.aload_n 0) 1 := dop_42 (dn_w dw16_5 13 rfl)
theorem dX2_goOneDay_94 : DE cX2_goOneDay 94 (.getfield 27) 3 := dop_180 (dn_w dw16_5 14 rfl) rfl
theorem dX2_goOneDay_97 : DE cX2_goOneDay 97 (.iload_n 3) 1 := dop_29 (dn_w dw16_6 1 rfl)
theorem dX2_goOneDay_98 : DE cX2_goOneDay 98 (.iconst 0) 1 := dop_3 (dn_w dw16_6 2 rfl)
theorem dX2_goOneDay_99 : DE cX2_goOneDay 99 (.aload_n 0) 1 := dop_42 (dn_w dw16_6 3 rfl)
theorem dX2_goOneDay_100 : DE cX2_goOneDay 100 (.getfield 27) 3 := dop_180 (dn_w dw16_6 4 rfl) rfl
theorem dX2_goOneDay_103 : DE cX2_goOneDay 103 (.iload_n 3) 1 := dop_29 (dn_w dw16_6 7 rfl)
theorem dX2_goOneDay_104 : DE cX2_goOneDay 104 (.iaload) 1 := dop_46 (dn_w dw16_6 8 rfl)
theorem dX2_goOneDay_105 : DE cX2_goOneDay 105 (.iconst 1) 1 := dop_4 (dn_w dw16_6 9 rfl)
theorem dX2_goOneDay_106 : DE cX2_goOneDay 106 (.isub) 1 := dop_100 (dn_w dw16_6 10 rfl)
theorem dX2_goOneDay_107 : DE cX2_goOneDay 107 (.invokestatic 109) 3 := dop_184 (dn_w dw16_6 11 rfl) rfl
theorem dX2_goOneDay_110 : DE cX2_goOneDay 110 (.iastore) 1 := dop_79 (dn_w dw16_6 14 rfl)
theorem dX2_goOneDay_111 : DE cX2_goOneDay 111 (.iinc 3 1) 3 := dop_132 (dn_w dw16_6 15 rfl) rfl
theorem dX2_goOneDay_114 : DE cX2_goOneDay 114 (.goto (-73)) 3 := dop_167 (dn_w dw16_7 2 rfl) rfl
theorem dX2_goOneDay_117 : DE cX2_goOneDay 117 (.aload_n 0) 1 := dop_42 (dn_w dw16_7 5 rfl)
theorem dX2_goOneDay_118 : DE cX2_goOneDay 118 (.iload_n 2) 1 := dop_28 (dn_w dw16_7 6 rfl)
theorem dX2_goOneDay_119 : DE cX2_goOneDay 119 (.invokevirtual 115) 3 := dop_182 (dn_w dw16_7 7 rfl) rfl
theorem dX2_goOneDay_122 : DE cX2_goOneDay 122 (.aload_n 0) 1 := dop_42 (dn_w dw16_7 10 rfl)
theorem dX2_goOneDay_123 : DE cX2_goOneDay 123 (.dup) 1 := dop_89 (dn_w dw16_7 11 rfl)
theorem dX2_goOneDay_124 : DE cX2_goOneDay 124 (.getfield 49) 3 := dop_180 (dn_w dw16_7 12 rfl) rfl
theorem dX2_goOneDay_127 : DE cX2_goOneDay 127 (.iconst 1) 1 := dop_4 (dn_w dw16_7 15 rfl)
theorem dX2_goOneDay_128 : DE cX2_goOneDay 128 (.iadd) 1 := dop_96 (dn_w dw16_8 0 rfl)
theorem dX2_goOneDay_129 : DE cX2_goOneDay 129 (.putfield 49) 3 := dop_181 (dn_w dw16_8 1 rfl) rfl
theorem dX2_goOneDay_132 : DE cX2_goOneDay 132 (.iload_n 1) 1 := dop_27 (dn_w dw16_8 4 rfl)
theorem dX2_goOneDay_133 : DE cX2_goOneDay 133 (.ireturn) 1 := dop_172 (dn_w dw16_8 5 rfl)
noncomputable def dt17_3 : List Nat := 46 :: 79 :: 132 :: 2 :: 1 :: 167 :: 255 :: 205 :: 177 :: []
noncomputable def dt17_2 : List Nat := 182 :: 0 :: 119 :: 153 :: 0 :: 15 :: 42 :: 180 :: 0 :: 24 :: 28 :: 42 :: 180 :: 0 :: 46 :: 6 :: dt17_3
noncomputable def dt17_1 : List Nat := 8 :: 160 :: 0 :: 33 :: 42 :: 180 :: 0 :: 24 :: 28 :: 46 :: 154 :: 0 :: 24 :: 42 :: 28 :: 27 :: dt17_2
noncomputable def dt17_0 : List Nat := 3 :: 61 :: 28 :: 42 :: 180 :: 0 :: 33 :: 162 :: 0 :: 49 :: 42 :: 180 :: 0 :: 9 :: 28 :: 46 :: dt17_1
theorem dw17_0 : dn cX2_spreadFrom 0 = dt17_0 := by decide +kernel
theorem dw17_1 : dn cX2_spreadFrom 16 = dt17_1 := dn_w dw17_0 16 rfl
theorem dw17_2 : dn cX2_spreadFrom 32 = dt17_2 := dn_w dw17_1 16 rfl
theorem dw17_3 : dn cX2_spreadFrom 48 = dt17_3 := dn_w dw17_2 16 rfl
theorem dX2_spreadFrom_0 : DE cX2_spreadFrom 0 (.iconst 0) 1 := dop_3 (dn_w dw17_0 0 rfl)
theorem dX2_spreadFrom_1 : DE cX2_spreadFrom 1 (.istore_n 2) 1 := dop_61 (dn_w dw17_0 1 rfl)
theorem dX2_spreadFrom_2 : DE cX2_spreadFrom 2 (.iload_n 2) 1 := dop_28 (dn_w dw17_0 2 rfl)
theorem dX2_spreadFrom_3 : DE cX2_spreadFrom 3 (.aload_n 0) 1 := dop_42 (dn_w dw17_0 3 rfl)
theorem dX2_spreadFrom_4 : DE cX2_spreadFrom 4 (.getfield 33) 3 := dop_180 (dn_w dw17_0 4 rfl) rfl
theorem dX2_spreadFrom_7 : DE cX2_spreadFrom 7 (.if_icmp .ge 49) 3 := dop_162 (dn_w dw17_0 7 rfl) rfl
theorem dX2_spreadFrom_10 : DE cX2_spreadFrom 10 (.aload_n 0) 1 := dop_42 (dn_w dw17_0 10 rfl)
theorem dX2_spreadFrom_11 : DE cX2_spreadFrom 11 (.getfield 9) 3 := dop_180 (dn_w dw17_0 11 rfl) rfl
theorem dX2_spreadFrom_14 : DE cX2_spreadFrom 14 (.iload_n 2) 1 := dop_28 (dn_w dw17_0 14 rfl)
theorem dX2_spreadFrom_15 : DE cX2_spreadFrom 15 (.iaload) 1 := dop_46 (dn_w dw17_0 15 rfl)
theorem dX2_spreadFrom_16 : DE cX2_spreadFrom 16 (.iconst 5) 1 := dop_8 (dn_w dw17_1 0 rfl)
theorem dX2_spreadFrom_17 : DE cX2_spreadFrom 17 (.if_icmp .ne 33) 3 := dop_160 (dn_w dw17_1 1 rfl) rfl
theorem dX2_spreadFrom_20 : DE cX2_spreadFrom 20 (.aload_n 0) 1 := dop_42 (dn_w dw17_1 4 rfl)
theorem dX2_spreadFrom_21 : DE cX2_spreadFrom 21 (.getfield 24) 3 := dop_180 (dn_w dw17_1 5 rfl) rfl
theorem dX2_spreadFrom_24 : DE cX2_spreadFrom 24 (.iload_n 2) 1 := dop_28 (dn_w dw17_1 8 rfl)
theorem dX2_spreadFrom_25 : DE cX2_spreadFrom 25 (.iaload) 1 := dop_46 (dn_w dw17_1 9 rfl)
theorem dX2_spreadFrom_26 : DE cX2_spreadFrom 26 (.ifCond .ne 24) 3 := dop_154 (dn_w dw17_1 10 rfl) rfl
theorem dX2_spreadFrom_29 : DE cX2_spreadFrom 29 (.aload_n 0) 1 := dop_42 (dn_w dw17_1 13 rfl)
theorem dX2_spreadFrom_30 : DE cX2_spreadFrom 30 (.iload_n 2) 1 := dop_28 (dn_w dw17_1 14 rfl)
theorem dX2_spreadFrom_31 : DE cX2_spreadFrom 31 (.iload_n 1) 1 := dop_27 (dn_w dw17_1 15 rfl)
theorem dX2_spreadFrom_32 : DE cX2_spreadFrom 32 (.invokevirtual 119) 3 := dop_182 (dn_w dw17_2 0 rfl) rfl
theorem dX2_spreadFrom_35 : DE cX2_spreadFrom 35 (.ifCond .eq 15) 3 := dop_153 (dn_w dw17_2 3 rfl) rfl
theorem dX2_spreadFrom_38 : DE cX2_spreadFrom 38 (.aload_n 0) 1 := dop_42 (dn_w dw17_2 6 rfl)
theorem dX2_spreadFrom_39 : DE cX2_spreadFrom 39 (.getfield 24) 3 := dop_180 (dn_w dw17_2 7 rfl) rfl
theorem dX2_spreadFrom_42 : DE cX2_spreadFrom 42 (.iload_n 2) 1 := dop_28 (dn_w dw17_2 10 rfl)
theorem dX2_spreadFrom_43 : DE cX2_spreadFrom 43 (.aload_n 0) 1 := dop_42 (dn_w dw17_2 11 rfl)
theorem dX2_spreadFrom_44 : DE cX2_spreadFrom 44 (.getfield 46) 3 := dop_180 (dn_w dw17_2 12 rfl) rfl
theorem dX2_spreadFrom_47 : DE cX2_spreadFrom 47 (.iconst 3) 1 := dop_6 (dn_w dw17_2 15 rfl)
theorem dX2_spreadFrom_48 : DE cX2_spreadFrom 48 (.iaload) 1 := dop_46 (dn_w dw17_3 0 rfl)
theorem dX2_spreadFrom_49 : DE cX2_spreadFrom 49 (.iastore) 1 := dop_79 (dn_w dw17_3 1 rfl)
theorem dX2_spreadFrom_50 : DE cX2_spreadFrom 50 (.iinc 2 1) 3 := dop_132 (dn_w dw17_3 2 rfl) rfl
theorem dX2_spreadFrom_53 : DE cX2_spreadFrom 53 (.goto (-51)) 3 := dop_167 (dn_w dw17_3 5 rfl) rfl
theorem dX2_spreadFrom_56 : DE cX2_spreadFrom 56 (.return_) 1 := dop_177 (dn_w dw17_3 8 rfl)
noncomputable def dt18_5 : List Nat := 3 :: 172 :: []
noncomputable def dt18_4 : List Nat := 46 :: 5 :: 46 :: 162 :: 0 :: 9 :: 21 :: 4 :: 7 :: 161 :: 0 :: 7 :: 4 :: 167 :: 0 :: 4 :: dt18_5
noncomputable def dt18_3 : List Nat := 160 :: 0 :: 6 :: 132 :: 3 :: 1 :: 132 :: 5 :: 1 :: 167 :: 255 :: 207 :: 29 :: 42 :: 180 :: 0 :: dt18_4
noncomputable def dt18_2 : List Nat := 132 :: 4 :: 1 :: 42 :: 180 :: 0 :: 18 :: 21 :: 5 :: 46 :: 42 :: 180 :: 0 :: 18 :: 27 :: 46 :: dt18_3
noncomputable def dt18_1 : List Nat := 46 :: 21 :: 5 :: 27 :: 159 :: 0 :: 34 :: 28 :: 21 :: 5 :: 122 :: 4 :: 126 :: 153 :: 0 :: 25 :: dt18_2
noncomputable def dt18_0 : List Nat := 3 :: 62 :: 3 :: 54 :: 4 :: 3 :: 54 :: 5 :: 21 :: 5 :: 42 :: 180 :: 0 :: 33 :: 162 :: 0 :: dt18_1
theorem dw18_0 : dn cX2_isTouched 0 = dt18_0 := by decide +kernel
theorem dw18_1 : dn cX2_isTouched 16 = dt18_1 := dn_w dw18_0 16 rfl
theorem dw18_2 : dn cX2_isTouched 32 = dt18_2 := dn_w dw18_1 16 rfl
theorem dw18_3 : dn cX2_isTouched 48 = dt18_3 := dn_w dw18_2 16 rfl
theorem dw18_4 : dn cX2_isTouched 64 = dt18_4 := dn_w dw18_3 16 rfl
theorem dw18_5 : dn cX2_isTouched 80 = dt18_5 := dn_w dw18_4 16 rfl
theorem dX2_isTouched_0 : DE cX2_isTouched 0 (.iconst 0) 1 := dop_3 (dn_w dw18_0 0 rfl)
theorem dX2_isTouched_1 : DE cX2_isTouched 1 (.istore_n 3) 1 := dop_62 (dn_w dw18_0 1 rfl)
theorem dX2_isTouched_2 : DE cX2_isTouched 2 (.iconst 0) 1 := dop_3 (dn_w dw18_0 2 rfl)
theorem dX2_isTouched_3 : DE cX2_isTouched 3 (.istore 4) 2 := dop_54 (dn_w dw18_0 3 rfl)
theorem dX2_isTouched_5 : DE cX2_isTouched 5 (.iconst 0) 1 := dop_3 (dn_w dw18_0 5 rfl)
theorem dX2_isTouched_6 : DE cX2_isTouched 6 (.istore 5) 2 := dop_54 (dn_w dw18_0 6 rfl)
theorem dX2_isTouched_8 : DE cX2_isTouched 8 (.iload 5) 2 := dop_21 (dn_w dw18_0 8 rfl)
theorem dX2_isTouched_10 : DE cX2_isTouched 10 (.aload_n 0) 1 := dop_42 (dn_w dw18_0 10 rfl)
theorem dX2_isTouched_11 : DE cX2_isTouched 11 (.getfield 33) 3 := dop_180 (dn_w dw18_0 11 rfl) rfl
theorem dX2_isTouched_14 : DE cX2_isTouched 14 (.if_icmp .ge 46) 3 := dop_162 (dn_w dw18_0 14 rfl) rfl
theorem dX2_isTouched_17 : DE cX2_isTouched 17 (.iload 5) 2 := dop_21 (dn_w dw18_1 1 rfl)
theorem dX2_isTouched_19 : DE cX2_isTouched 19 (.iload_n 1) 1 := dop_27 (dn_w dw18_1 3 rfl)
theorem dX2_isTouched_20 : DE cX2_isTouched 20 (.if_icmp .eq 34) 3 := dop_159 (dn_w dw18_1 4 rfl) rfl
theorem dX2_isTouched_23 : DE cX2_isTouched 23 (.iload_n 2) 1 := dop_28 (dn_w dw18_1 7 rfl)
theorem dX2_isTouched_24 : DE cX2_isTouched 24 (.iload 5) 2 := dop_21 (dn_w dw18_1 8 rfl)
theorem dX2_isTouched_26 : DE cX2_isTouched 26 (.ishr) 1 := dop_122 (dn_w dw18_1 10 rfl)
theorem dX2_isTouched_27 : DE cX2_isTouched 27 (.iconst 1) 1 := dop_4 (dn_w dw18_1 11 rfl)
theorem dX2_isTouched_28 : DE cX2_isTouched 28 (.iand) 1 := dop_126 (dn_w dw18_1 12 rfl)
theorem dX2_isTouched_29 : DE cX2_isTouched 29 (.ifCond .eq 25) 3 := dop_153 (dn_w dw18_1 13 rfl) rfl
theorem dX2_isTouched_32 : DE cX2_isTouched 32 (.iinc 4 1) 3 := dop_132 (dn_w dw18_2 0 rfl) rfl
theorem dX2_isTouched_35 : DE cX2_isTouched 35 (.aload_n 0) 1 := dop_42 (dn_w dw18_2 3 rfl)
theorem dX2_isTouched_36 : DE cX2_isTouched 36 (.getfield 18) 3 := dop_180 (dn_w dw18_2 4 rfl) rfl
theorem dX2_isTouched_39 : DE cX2_isTouched 39 (.iload 5) 2 := dop_21 (dn_w dw18_2 7 rfl)
theorem dX2_isTouched_41 : DE cX2_isTouched 41 (.iaload) 1 := dop_46 (dn_w dw18_2 9 rfl)
theorem dX2_isTouched_42 : DE cX2_isTouched 42 (.aload_n 0) 1 := dop_42 (dn_w dw18_2 10 rfl)
theorem dX2_isTouched_43 : DE cX2_isTouched 43 (.getfield 18) 3 := dop_180 (dn_w dw18_2 11 rfl) rfl
theorem dX2_isTouched_46 : DE cX2_isTouched 46 (.iload_n 1) 1 := dop_27 (dn_w dw18_2 14 rfl)
theorem dX2_isTouched_47 : DE cX2_isTouched 47 (.iaload) 1 := dop_46 (dn_w dw18_2 15 rfl)
theorem dX2_isTouched_48 : DE cX2_isTouched 48 (.if_icmp .ne 6) 3 := dop_160 (dn_w dw18_3 0 rfl) rfl
theorem dX2_isTouched_51 : DE cX2_isTouched 51 (.iinc 3 1) 3 := dop_132 (dn_w dw18_3 3 rfl) rfl
theorem dX2_isTouched_54 : DE cX2_isTouched 54 (.iinc 5 1) 3 := dop_132 (dn_w dw18_3 6 rfl) rfl
theorem dX2_isTouched_57 : DE cX2_isTouched 57 (.goto (-49)) 3 := dop_167 (dn_w dw18_3 9 rfl) rfl
theorem dX2_isTouched_60 : DE cX2_isTouched 60 (.iload_n 3) 1 := dop_29 (dn_w dw18_3 12 rfl)
theorem dX2_isTouched_61 : DE cX2_isTouched 61 (.aload_n 0) 1 := dop_42 (dn_w dw18_3 13 rfl)
theorem dX2_isTouched_62 : DE cX2_isTouched 62 (.getfield 46) 3 := dop_180 (dn_w dw18_3 14 rfl) rfl
theorem dX2_isTouched_65 : DE cX2_isTouched 65 (.iconst 2) 1 := dop_5 (dn_w dw18_4 1 rfl)
theorem dX2_isTouched_66 : DE cX2_isTouched 66 (.iaload) 1 := dop_46 (dn_w dw18_4 2 rfl)
theorem dX2_isTouched_67 : DE cX2_isTouched 67 (.if_icmp .ge 9) 3 := dop_162 (dn_w dw18_4 3 rfl) rfl
theorem dX2_isTouched_70 : DE cX2_isTouched 70 (.iload 4) 2 := dop_21 (dn_w dw18_4 6 rfl)
theorem dX2_isTouched_72 : DE cX2_isTouched 72 (.iconst 4) 1 := dop_7 (dn_w dw18_4 8 rfl)
theorem dX2_isTouched_73 : DE cX2_isTouched 73 (.if_icmp .lt 7) 3 := dop_161 (dn_w dw18_4 9 rfl) rfl
theorem dX2_isTouched_76 : DE cX2_isTouched 76 (.iconst 1) 1 := dop_4 (dn_w dw18_4 12 rfl)
theorem dX2_isTouched_77 : DE cX2_isTouched 77 (.goto 4) 3 := dop_167 (dn_w dw18_4 13 rfl) rfl
theorem dX2_isTouched_80 : DE cX2_isTouched 80 (.iconst 0) 1 := dop_3 (dn_w dw18_5 0 rfl)
theorem dX2_isTouched_81 : DE cX2_isTouched 81 (.ireturn) 1 := dop_172 (dn_w dw18_5 1 rfl)
noncomputable def dt19_2 : List Nat := 46 :: 79 :: 132 :: 2 :: 1 :: 132 :: 3 :: 1 :: 167 :: 255 :: 220 :: 28 :: 172 :: []
noncomputable def dt19_1 : List Nat := 29 :: 46 :: 27 :: 160 :: 0 :: 18 :: 42 :: 180 :: 0 :: 27 :: 29 :: 42 :: 180 :: 0 :: 46 :: 3 :: dt19_2
noncomputable def dt19_0 : List Nat := 3 :: 61 :: 3 :: 62 :: 29 :: 42 :: 180 :: 0 :: 33 :: 162 :: 0 :: 34 :: 42 :: 180 :: 0 :: 18 :: dt19_1
theorem dw19_0 : dn cX2_knockAt 0 = dt19_0 := by decide +kernel
theorem dw19_1 : dn cX2_knockAt 16 = dt19_1 := dn_w dw19_0 16 rfl
theorem dw19_2 : dn cX2_knockAt 32 = dt19_2 := dn_w dw19_1 16 rfl
theorem dX2_knockAt_0 : DE cX2_knockAt 0 (.iconst 0) 1 := dop_3 (dn_w dw19_0 0 rfl)
theorem dX2_knockAt_1 : DE cX2_knockAt 1 (.istore_n 2) 1 := dop_61 (dn_w dw19_0 1 rfl)
theorem dX2_knockAt_2 : DE cX2_knockAt 2 (.iconst 0) 1 := dop_3 (dn_w dw19_0 2 rfl)
theorem dX2_knockAt_3 : DE cX2_knockAt 3 (.istore_n 3) 1 := dop_62 (dn_w dw19_0 3 rfl)
theorem dX2_knockAt_4 : DE cX2_knockAt 4 (.iload_n 3) 1 := dop_29 (dn_w dw19_0 4 rfl)
theorem dX2_knockAt_5 : DE cX2_knockAt 5 (.aload_n 0) 1 := dop_42 (dn_w dw19_0 5 rfl)
theorem dX2_knockAt_6 : DE cX2_knockAt 6 (.getfield 33) 3 := dop_180 (dn_w dw19_0 6 rfl) rfl
theorem dX2_knockAt_9 : DE cX2_knockAt 9 (.if_icmp .ge 34) 3 := dop_162 (dn_w dw19_0 9 rfl) rfl
theorem dX2_knockAt_12 : DE cX2_knockAt 12 (.aload_n 0) 1 := dop_42 (dn_w dw19_0 12 rfl)
theorem dX2_knockAt_13 : DE cX2_knockAt 13 (.getfield 18) 3 := dop_180 (dn_w dw19_0 13 rfl) rfl
theorem dX2_knockAt_16 : DE cX2_knockAt 16 (.iload_n 3) 1 := dop_29 (dn_w dw19_1 0 rfl)
theorem dX2_knockAt_17 : DE cX2_knockAt 17 (.iaload) 1 := dop_46 (dn_w dw19_1 1 rfl)
theorem dX2_knockAt_18 : DE cX2_knockAt 18 (.iload_n 1) 1 := dop_27 (dn_w dw19_1 2 rfl)
theorem dX2_knockAt_19 : DE cX2_knockAt 19 (.if_icmp .ne 18) 3 := dop_160 (dn_w dw19_1 3 rfl) rfl
theorem dX2_knockAt_22 : DE cX2_knockAt 22 (.aload_n 0) 1 := dop_42 (dn_w dw19_1 6 rfl)
theorem dX2_knockAt_23 : DE cX2_knockAt 23 (.getfield 27) 3 := dop_180 (dn_w dw19_1 7 rfl) rfl
theorem dX2_knockAt_26 : DE cX2_knockAt 26 (.iload_n 3) 1 := dop_29 (dn_w dw19_1 10 rfl)
theorem dX2_knockAt_27 : DE cX2_knockAt 27 (.aload_n 0) 1 := dop_42 (dn_w dw19_1 11 rfl)
theorem dX2_knockAt_28 : DE cX2_knockAt 28 (.getfield 46) 3 := dop_180 (dn_w dw19_1 12 rfl) rfl
theorem dX2_knockAt_31 : DE cX2_knockAt 31 (.iconst 0) 1 := dop_3 (dn_w dw19_1 15 rfl)
theorem dX2_knockAt_32 : DE cX2_knockAt 32 (.iaload) 1 := dop_46 (dn_w dw19_2 0 rfl)
theorem dX2_knockAt_33 : DE cX2_knockAt 33 (.iastore) 1 := dop_79 (dn_w dw19_2 1 rfl)
theorem dX2_knockAt_34 : DE cX2_knockAt 34 (.iinc 2 1) 3 := dop_132 (dn_w dw19_2 2 rfl) rfl
theorem dX2_knockAt_37 : DE cX2_knockAt 37 (.iinc 3 1) 3 := dop_132 (dn_w dw19_2 5 rfl) rfl
theorem dX2_knockAt_40 : DE cX2_knockAt 40 (.goto (-36)) 3 := dop_167 (dn_w dw19_2 8 rfl) rfl
theorem dX2_knockAt_43 : DE cX2_knockAt 43 (.iload_n 2) 1 := dop_28 (dn_w dw19_2 11 rfl)
theorem dX2_knockAt_44 : DE cX2_knockAt 44 (.ireturn) 1 := dop_172 (dn_w dw19_2 12 rfl)
noncomputable def dt20_1 : List Nat := 4 :: 3 :: 172 :: []
noncomputable def dt20_0 : List Nat := 42 :: 180 :: 0 :: 40 :: 27 :: 46 :: 28 :: 122 :: 4 :: 126 :: 153 :: 0 :: 7 :: 4 :: 167 :: 0 :: dt20_1
theorem dw20_0 : dn cX2_hasCross 0 = dt20_0 := by decide +kernel
theorem dw20_1 : dn cX2_hasCross 16 = dt20_1 := dn_w dw20_0 16 rfl
theorem dX2_hasCross_0 : DE cX2_hasCross 0 (.aload_n 0) 1 := dop_42 (dn_w dw20_0 0 rfl)
theorem dX2_hasCross_1 : DE cX2_hasCross 1 (.getfield 40) 3 := dop_180 (dn_w dw20_0 1 rfl) rfl
theorem dX2_hasCross_4 : DE cX2_hasCross 4 (.iload_n 1) 1 := dop_27 (dn_w dw20_0 4 rfl)
theorem dX2_hasCross_5 : DE cX2_hasCross 5 (.iaload) 1 := dop_46 (dn_w dw20_0 5 rfl)
theorem dX2_hasCross_6 : DE cX2_hasCross 6 (.iload_n 2) 1 := dop_28 (dn_w dw20_0 6 rfl)
theorem dX2_hasCross_7 : DE cX2_hasCross 7 (.ishr) 1 := dop_122 (dn_w dw20_0 7 rfl)
theorem dX2_hasCross_8 : DE cX2_hasCross 8 (.iconst 1) 1 := dop_4 (dn_w dw20_0 8 rfl)
theorem dX2_hasCross_9 : DE cX2_hasCross 9 (.iand) 1 := dop_126 (dn_w dw20_0 9 rfl)
theorem dX2_hasCross_10 : DE cX2_hasCross 10 (.ifCond .eq 7) 3 := dop_153 (dn_w dw20_0 10 rfl) rfl
theorem dX2_hasCross_13 : DE cX2_hasCross 13 (.iconst 1) 1 := dop_4 (dn_w dw20_0 13 rfl)
theorem dX2_hasCross_14 : DE cX2_hasCross 14 (.goto 4) 3 := dop_167 (dn_w dw20_0 14 rfl) rfl
theorem dX2_hasCross_17 : DE cX2_hasCross 17 (.iconst 0) 1 := dop_3 (dn_w dw20_1 1 rfl)
theorem dX2_hasCross_18 : DE cX2_hasCross 18 (.ireturn) 1 := dop_172 (dn_w dw20_1 2 rfl)
noncomputable def dt21_1 : List Nat := 46 :: 184 :: 0 :: 123 :: 96 :: 60 :: 132 :: 2 :: 1 :: 167 :: 255 :: 235 :: 27 :: 172 :: []
noncomputable def dt21_0 : List Nat := 3 :: 60 :: 3 :: 61 :: 28 :: 16 :: 40 :: 162 :: 0 :: 21 :: 27 :: 42 :: 180 :: 0 :: 40 :: 28 :: dt21_1
theorem dw21_0 : dn cX2_allCrosses 0 = dt21_0 := by decide +kernel
theorem dw21_1 : dn cX2_allCrosses 16 = dt21_1 := dn_w dw21_0 16 rfl
theorem dX2_allCrosses_0 : DE cX2_allCrosses 0 (.iconst 0) 1 := dop_3 (dn_w dw21_0 0 rfl)
theorem dX2_allCrosses_1 : DE cX2_allCrosses 1 (.istore_n 1) 1 := dop_60 (dn_w dw21_0 1 rfl)
theorem dX2_allCrosses_2 : DE cX2_allCrosses 2 (.iconst 0) 1 := dop_3 (dn_w dw21_0 2 rfl)
theorem dX2_allCrosses_3 : DE cX2_allCrosses 3 (.istore_n 2) 1 := dop_61 (dn_w dw21_0 3 rfl)
theorem dX2_allCrosses_4 : DE cX2_allCrosses 4 (.iload_n 2) 1 := dop_28 (dn_w dw21_0 4 rfl)
theorem dX2_allCrosses_5 : DE cX2_allCrosses 5 (.bipush 40) 2 := dop_16 (dn_w dw21_0 5 rfl) rfl
theorem dX2_allCrosses_7 : DE cX2_allCrosses 7 (.if_icmp .ge 21) 3 := dop_162 (dn_w dw21_0 7 rfl) rfl
theorem dX2_allCrosses_10 : DE cX2_allCrosses 10 (.iload_n 1) 1 := dop_27 (dn_w dw21_0 10 rfl)
theorem dX2_allCrosses_11 : DE cX2_allCrosses 11 (.aload_n 0) 1 := dop_42 (dn_w dw21_0 11 rfl)
theorem dX2_allCrosses_12 : DE cX2_allCrosses 12 (.getfield 40) 3 := dop_180 (dn_w dw21_0 12 rfl) rfl
theorem dX2_allCrosses_15 : DE cX2_allCrosses 15 (.iload_n 2) 1 := dop_28 (dn_w dw21_0 15 rfl)
theorem dX2_allCrosses_16 : DE cX2_allCrosses 16 (.iaload) 1 := dop_46 (dn_w dw21_1 0 rfl)
theorem dX2_allCrosses_17 : DE cX2_allCrosses 17 (.invokestatic 123) 3 := dop_184 (dn_w dw21_1 1 rfl) rfl
theorem dX2_allCrosses_20 : DE cX2_allCrosses 20 (.iadd) 1 := dop_96 (dn_w dw21_1 4 rfl)
theorem dX2_allCrosses_21 : DE cX2_allCrosses 21 (.istore_n 1) 1 := dop_60 (dn_w dw21_1 5 rfl)
theorem dX2_allCrosses_22 : DE cX2_allCrosses 22 (.iinc 2 1) 3 := dop_132 (dn_w dw21_1 6 rfl) rfl
theorem dX2_allCrosses_25 : DE cX2_allCrosses 25 (.goto (-21)) 3 := dop_167 (dn_w dw21_1 9 rfl) rfl
theorem dX2_allCrosses_28 : DE cX2_allCrosses 28 (.iload_n 1) 1 := dop_27 (dn_w dw21_1 12 rfl)
theorem dX2_allCrosses_29 : DE cX2_allCrosses 29 (.ireturn) 1 := dop_172 (dn_w dw21_1 13 rfl)
noncomputable def dt22_2 : List Nat := 2 :: 1 :: 167 :: 255 :: 226 :: 27 :: 172 :: []
noncomputable def dt22_1 : List Nat := 46 :: 42 :: 180 :: 0 :: 43 :: 28 :: 46 :: 2 :: 130 :: 126 :: 184 :: 0 :: 123 :: 96 :: 60 :: 132 :: dt22_2
noncomputable def dt22_0 : List Nat := 3 :: 60 :: 3 :: 61 :: 28 :: 16 :: 40 :: 162 :: 0 :: 30 :: 27 :: 42 :: 180 :: 0 :: 40 :: 28 :: dt22_1
theorem dw22_0 : dn cX2_falseCrosses 0 = dt22_0 := by decide +kernel
theorem dw22_1 : dn cX2_falseCrosses 16 = dt22_1 := dn_w dw22_0 16 rfl
theorem dw22_2 : dn cX2_falseCrosses 32 = dt22_2 := dn_w dw22_1 16 rfl
theorem dX2_falseCrosses_0 : DE cX2_falseCrosses 0 (.iconst 0) 1 := dop_3 (dn_w dw22_0 0 rfl)
theorem dX2_falseCrosses_1 : DE cX2_falseCrosses 1 (.istore_n 1) 1 := dop_60 (dn_w dw22_0 1 rfl)
theorem dX2_falseCrosses_2 : DE cX2_falseCrosses 2 (.iconst 0) 1 := dop_3 (dn_w dw22_0 2 rfl)
theorem dX2_falseCrosses_3 : DE cX2_falseCrosses 3 (.istore_n 2) 1 := dop_61 (dn_w dw22_0 3 rfl)
theorem dX2_falseCrosses_4 : DE cX2_falseCrosses 4 (.iload_n 2) 1 := dop_28 (dn_w dw22_0 4 rfl)
theorem dX2_falseCrosses_5 : DE cX2_falseCrosses 5 (.bipush 40) 2 := dop_16 (dn_w dw22_0 5 rfl) rfl
theorem dX2_falseCrosses_7 : DE cX2_falseCrosses 7 (.if_icmp .ge 30) 3 := dop_162 (dn_w dw22_0 7 rfl) rfl
theorem dX2_falseCrosses_10 : DE cX2_falseCrosses 10 (.iload_n 1) 1 := dop_27 (dn_w dw22_0 10 rfl)
theorem dX2_falseCrosses_11 : DE cX2_falseCrosses 11 (.aload_n 0) 1 := dop_42 (dn_w dw22_0 11 rfl)
theorem dX2_falseCrosses_12 : DE cX2_falseCrosses 12 (.getfield 40) 3 := dop_180 (dn_w dw22_0 12 rfl) rfl
theorem dX2_falseCrosses_15 : DE cX2_falseCrosses 15 (.iload_n 2) 1 := dop_28 (dn_w dw22_0 15 rfl)
theorem dX2_falseCrosses_16 : DE cX2_falseCrosses 16 (.iaload) 1 := dop_46 (dn_w dw22_1 0 rfl)
theorem dX2_falseCrosses_17 : DE cX2_falseCrosses 17 (.aload_n 0) 1 := dop_42 (dn_w dw22_1 1 rfl)
theorem dX2_falseCrosses_18 : DE cX2_falseCrosses 18 (.getfield 43) 3 := dop_180 (dn_w dw22_1 2 rfl) rfl
theorem dX2_falseCrosses_21 : DE cX2_falseCrosses 21 (.iload_n 2) 1 := dop_28 (dn_w dw22_1 5 rfl)
theorem dX2_falseCrosses_22 : DE cX2_falseCrosses 22 (.iaload) 1 := dop_46 (dn_w dw22_1 6 rfl)
theorem dX2_falseCrosses_23 : DE cX2_falseCrosses 23 (.iconst (-1)) 1 := dop_2 (dn_w dw22_1 7 rfl)
theorem dX2_falseCrosses_24 : DE cX2_falseCrosses 24 (.ixor) 1 := dop_130 (dn_w dw22_1 8 rfl)
theorem dX2_falseCrosses_25 : DE cX2_falseCrosses 25 (.iand) 1 := dop_126 (dn_w dw22_1 9 rfl)
theorem dX2_falseCrosses_26 : DE cX2_falseCrosses 26 (.invokestatic 123) 3 := dop_184 (dn_w dw22_1 10 rfl) rfl
theorem dX2_falseCrosses_29 : DE cX2_falseCrosses 29 (.iadd) 1 := dop_96 (dn_w dw22_1 13 rfl)
theorem dX2_falseCrosses_30 : DE cX2_falseCrosses 30 (.istore_n 1) 1 := dop_60 (dn_w dw22_1 14 rfl)
theorem dX2_falseCrosses_31 : DE cX2_falseCrosses 31 (.iinc 2 1) 3 := dop_132 (dn_w dw22_1 15 rfl) rfl
theorem dX2_falseCrosses_34 : DE cX2_falseCrosses 34 (.goto (-30)) 3 := dop_167 (dn_w dw22_2 2 rfl) rfl
theorem dX2_falseCrosses_37 : DE cX2_falseCrosses 37 (.iload_n 1) 1 := dop_27 (dn_w dw22_2 5 rfl)
theorem dX2_falseCrosses_38 : DE cX2_falseCrosses 38 (.ireturn) 1 := dop_172 (dn_w dw22_2 6 rfl)
noncomputable def dt23_2 : List Nat := 2 :: 1 :: 167 :: 255 :: 226 :: 27 :: 172 :: []
noncomputable def dt23_1 : List Nat := 46 :: 42 :: 180 :: 0 :: 40 :: 28 :: 46 :: 2 :: 130 :: 126 :: 184 :: 0 :: 123 :: 96 :: 60 :: 132 :: dt23_2
noncomputable def dt23_0 : List Nat := 3 :: 60 :: 3 :: 61 :: 28 :: 16 :: 40 :: 162 :: 0 :: 30 :: 27 :: 42 :: 180 :: 0 :: 43 :: 28 :: dt23_1
theorem dw23_0 : dn cX2_lostCrosses 0 = dt23_0 := by decide +kernel
theorem dw23_1 : dn cX2_lostCrosses 16 = dt23_1 := dn_w dw23_0 16 rfl
theorem dw23_2 : dn cX2_lostCrosses 32 = dt23_2 := dn_w dw23_1 16 rfl
theorem dX2_lostCrosses_0 : DE cX2_lostCrosses 0 (.iconst 0) 1 := dop_3 (dn_w dw23_0 0 rfl)
theorem dX2_lostCrosses_1 : DE cX2_lostCrosses 1 (.istore_n 1) 1 := dop_60 (dn_w dw23_0 1 rfl)
theorem dX2_lostCrosses_2 : DE cX2_lostCrosses 2 (.iconst 0) 1 := dop_3 (dn_w dw23_0 2 rfl)
theorem dX2_lostCrosses_3 : DE cX2_lostCrosses 3 (.istore_n 2) 1 := dop_61 (dn_w dw23_0 3 rfl)
theorem dX2_lostCrosses_4 : DE cX2_lostCrosses 4 (.iload_n 2) 1 := dop_28 (dn_w dw23_0 4 rfl)
theorem dX2_lostCrosses_5 : DE cX2_lostCrosses 5 (.bipush 40) 2 := dop_16 (dn_w dw23_0 5 rfl) rfl
theorem dX2_lostCrosses_7 : DE cX2_lostCrosses 7 (.if_icmp .ge 30) 3 := dop_162 (dn_w dw23_0 7 rfl) rfl
theorem dX2_lostCrosses_10 : DE cX2_lostCrosses 10 (.iload_n 1) 1 := dop_27 (dn_w dw23_0 10 rfl)
theorem dX2_lostCrosses_11 : DE cX2_lostCrosses 11 (.aload_n 0) 1 := dop_42 (dn_w dw23_0 11 rfl)
theorem dX2_lostCrosses_12 : DE cX2_lostCrosses 12 (.getfield 43) 3 := dop_180 (dn_w dw23_0 12 rfl) rfl
theorem dX2_lostCrosses_15 : DE cX2_lostCrosses 15 (.iload_n 2) 1 := dop_28 (dn_w dw23_0 15 rfl)
theorem dX2_lostCrosses_16 : DE cX2_lostCrosses 16 (.iaload) 1 := dop_46 (dn_w dw23_1 0 rfl)
theorem dX2_lostCrosses_17 : DE cX2_lostCrosses 17 (.aload_n 0) 1 := dop_42 (dn_w dw23_1 1 rfl)
theorem dX2_lostCrosses_18 : DE cX2_lostCrosses 18 (.getfield 40) 3 := dop_180 (dn_w dw23_1 2 rfl) rfl
theorem dX2_lostCrosses_21 : DE cX2_lostCrosses 21 (.iload_n 2) 1 := dop_28 (dn_w dw23_1 5 rfl)
theorem dX2_lostCrosses_22 : DE cX2_lostCrosses 22 (.iaload) 1 := dop_46 (dn_w dw23_1 6 rfl)
theorem dX2_lostCrosses_23 : DE cX2_lostCrosses 23 (.iconst (-1)) 1 := dop_2 (dn_w dw23_1 7 rfl)
theorem dX2_lostCrosses_24 : DE cX2_lostCrosses 24 (.ixor) 1 := dop_130 (dn_w dw23_1 8 rfl)
theorem dX2_lostCrosses_25 : DE cX2_lostCrosses 25 (.iand) 1 := dop_126 (dn_w dw23_1 9 rfl)
theorem dX2_lostCrosses_26 : DE cX2_lostCrosses 26 (.invokestatic 123) 3 := dop_184 (dn_w dw23_1 10 rfl) rfl
theorem dX2_lostCrosses_29 : DE cX2_lostCrosses 29 (.iadd) 1 := dop_96 (dn_w dw23_1 13 rfl)
theorem dX2_lostCrosses_30 : DE cX2_lostCrosses 30 (.istore_n 1) 1 := dop_60 (dn_w dw23_1 14 rfl)
theorem dX2_lostCrosses_31 : DE cX2_lostCrosses 31 (.iinc 2 1) 3 := dop_132 (dn_w dw23_1 15 rfl) rfl
theorem dX2_lostCrosses_34 : DE cX2_lostCrosses 34 (.goto (-30)) 3 := dop_167 (dn_w dw23_2 2 rfl) rfl
theorem dX2_lostCrosses_37 : DE cX2_lostCrosses 37 (.iload_n 1) 1 := dop_27 (dn_w dw23_2 5 rfl)
theorem dX2_lostCrosses_38 : DE cX2_lostCrosses 38 (.ireturn) 1 := dop_172 (dn_w dw23_2 6 rfl)
noncomputable def dt24_2 : List Nat := 247 :: 172 :: []
noncomputable def dt24_1 : List Nat := 0 :: 43 :: 27 :: 46 :: 159 :: 0 :: 5 :: 27 :: 172 :: 132 :: 1 :: 1 :: 167 :: 255 :: 230 :: 16 :: dt24_2
noncomputable def dt24_0 : List Nat := 3 :: 60 :: 27 :: 16 :: 40 :: 162 :: 0 :: 26 :: 42 :: 180 :: 0 :: 40 :: 27 :: 46 :: 42 :: 180 :: dt24_1
theorem dw24_0 : dn cX2_firstWrongDay 0 = dt24_0 := by decide +kernel
theorem dw24_1 : dn cX2_firstWrongDay 16 = dt24_1 := dn_w dw24_0 16 rfl
theorem dw24_2 : dn cX2_firstWrongDay 32 = dt24_2 := dn_w dw24_1 16 rfl
theorem dX2_firstWrongDay_0 : DE cX2_firstWrongDay 0 (.iconst 0) 1 := dop_3 (dn_w dw24_0 0 rfl)
theorem dX2_firstWrongDay_1 : DE cX2_firstWrongDay 1 (.istore_n 1) 1 := dop_60 (dn_w dw24_0 1 rfl)
theorem dX2_firstWrongDay_2 : DE cX2_firstWrongDay 2 (.iload_n 1) 1 := dop_27 (dn_w dw24_0 2 rfl)
theorem dX2_firstWrongDay_3 : DE cX2_firstWrongDay 3 (.bipush 40) 2 := dop_16 (dn_w dw24_0 3 rfl) rfl
theorem dX2_firstWrongDay_5 : DE cX2_firstWrongDay 5 (.if_icmp .ge 26) 3 := dop_162 (dn_w dw24_0 5 rfl) rfl
theorem dX2_firstWrongDay_8 : DE cX2_firstWrongDay 8 (.aload_n 0) 1 := dop_42 (dn_w dw24_0 8 rfl)
theorem dX2_firstWrongDay_9 : DE cX2_firstWrongDay 9 (.getfield 40) 3 := dop_180 (dn_w dw24_0 9 rfl) rfl
theorem dX2_firstWrongDay_12 : DE cX2_firstWrongDay 12 (.iload_n 1) 1 := dop_27 (dn_w dw24_0 12 rfl)
theorem dX2_firstWrongDay_13 : DE cX2_firstWrongDay 13 (.iaload) 1 := dop_46 (dn_w dw24_0 13 rfl)
theorem dX2_firstWrongDay_14 : DE cX2_firstWrongDay 14 (.aload_n 0) 1 := dop_42 (dn_w dw24_0 14 rfl)
theorem dX2_firstWrongDay_15 : DE cX2_firstWrongDay 15 (.getfield 43) 3 := dop_180 (dn_w dw24_0 15 rfl) rfl
theorem dX2_firstWrongDay_18 : DE cX2_firstWrongDay 18 (.iload_n 1) 1 := dop_27 (dn_w dw24_1 2 rfl)
theorem dX2_firstWrongDay_19 : DE cX2_firstWrongDay 19 (.iaload) 1 := dop_46 (dn_w dw24_1 3 rfl)
theorem dX2_firstWrongDay_20 : DE cX2_firstWrongDay 20 (.if_icmp .eq 5) 3 := dop_159 (dn_w dw24_1 4 rfl) rfl
theorem dX2_firstWrongDay_23 : DE cX2_firstWrongDay 23 (.iload_n 1) 1 := dop_27 (dn_w dw24_1 7 rfl)
theorem dX2_firstWrongDay_24 : DE cX2_firstWrongDay 24 (.ireturn) 1 := dop_172 (dn_w dw24_1 8 rfl)
theorem dX2_firstWrongDay_25 : DE cX2_firstWrongDay 25 (.iinc 1 1) 3 := dop_132 (dn_w dw24_1 9 rfl) rfl
theorem dX2_firstWrongDay_28 : DE cX2_firstWrongDay 28 (.goto (-26)) 3 := dop_167 (dn_w dw24_1 12 rfl) rfl
theorem dX2_firstWrongDay_31 : DE cX2_firstWrongDay 31 (.bipush (-9)) 2 := dop_16 (dn_w dw24_1 15 rfl) rfl
theorem dX2_firstWrongDay_33 : DE cX2_firstWrongDay 33 (.ireturn) 1 := dop_172 (dn_w dw24_2 1 rfl)
noncomputable def dt25_3 : List Nat := 4 :: 1 :: 167 :: 255 :: 213 :: 28 :: 172 :: []
noncomputable def dt25_2 : List Nat := 7 :: 3 :: 167 :: 0 :: 6 :: 29 :: 4 :: 96 :: 62 :: 28 :: 29 :: 184 :: 0 :: 109 :: 61 :: 132 :: dt25_3
noncomputable def dt25_1 : List Nat := 21 :: 4 :: 16 :: 40 :: 162 :: 0 :: 33 :: 42 :: 21 :: 4 :: 27 :: 182 :: 0 :: 129 :: 153 :: 0 :: dt25_2
noncomputable def dt25_0 : List Nat := 3 :: 61 :: 3 :: 62 :: 3 :: 54 :: 4 :: 21 :: 4 :: 42 :: 180 :: 0 :: 49 :: 162 :: 0 :: 40 :: dt25_1
theorem dw25_0 : dn cX2_longestWithoutCross 0 = dt25_0 := by decide +kernel
theorem dw25_1 : dn cX2_longestWithoutCross 16 = dt25_1 := dn_w dw25_0 16 rfl
theorem dw25_2 : dn cX2_longestWithoutCross 32 = dt25_2 := dn_w dw25_1 16 rfl
theorem dw25_3 : dn cX2_longestWithoutCross 48 = dt25_3 := dn_w dw25_2 16 rfl
theorem dX2_longestWithoutCross_0 : DE cX2_longestWithoutCross 0 (.iconst 0) 1 := dop_3 (dn_w dw25_0 0 rfl)
theorem dX2_longestWithoutCross_1 : DE cX2_longestWithoutCross 1 (.istore_n 2) 1 := dop_61 (dn_w dw25_0 1 rfl)
theorem dX2_longestWithoutCross_2 : DE cX2_longestWithoutCross 2 (.iconst 0) 1 := dop_3 (dn_w dw25_0 2 rfl)
theorem dX2_longestWithoutCross_3 : DE cX2_longestWithoutCross 3 (.istore_n 3) 1 := dop_62 (dn_w dw25_0 3 rfl)
theorem dX2_longestWithoutCross_4 : DE cX2_longestWithoutCross 4 (.iconst 0) 1 := dop_3 (dn_w dw25_0 4 rfl)
theorem dX2_longestWithoutCross_5 : DE cX2_longestWithoutCross 5 (.istore 4) 2 := dop_54 (dn_w dw25_0 5 rfl)
theorem dX2_longestWithoutCross_7 : DE cX2_longestWithoutCross 7 (.iload 4) 2 := dop_21 (dn_w dw25_0 7 rfl)
theorem dX2_longestWithoutCross_9 : DE cX2_longestWithoutCross 9 (.aload_n 0) 1 := dop_42 (dn_w dw25_0 9 rfl)
theorem dX2_longestWithoutCross_10 : DE cX2_longestWithoutCross 10 (.getfield 49) 3 := dop_180 (dn_w dw25_0 10 rfl) rfl
theorem dX2_longestWithoutCross_13 : DE cX2_longestWithoutCross 13 (.if_icmp .ge 40) 3 := dop_162 (dn_w dw25_0 13 rfl) rfl
theorem dX2_longestWithoutCross_16 : DE cX2_longestWithoutCross 16 (.iload 4) 2 := dop_21 (dn_w dw25_1 0 rfl)
theorem dX2_longestWithoutCross_18 : DE cX2_longestWithoutCross 18 (.bipush 40) 2 := dop_16 (dn_w dw25_1 2 rfl) rfl
theorem dX2_longestWithoutCross_20 : DE cX2_longestWithoutCross 20 (.if_icmp .ge 33) 3 := dop_162 (dn_w dw25_1 4 rfl) rfl
theorem dX2_longestWithoutCross_23 : DE cX2_longestWithoutCross 23 (.aload_n 0) 1 := dop_42 (dn_w dw25_1 7 rfl)
theorem dX2_longestWithoutCross_24 : DE cX2_longestWithoutCross 24 (.iload 4) 2 := dop_21 (dn_w dw25_1 8 rfl)
theorem dX2_longestWithoutCross_26 : DE cX2_longestWithoutCross 26 (.iload_n 1) 1 := dop_27 (dn_w dw25_1 10 rfl)
theorem dX2_longestWithoutCross_27 : DE cX2_longestWithoutCross 27 (.invokevirtual 129) 3 := dop_182 (dn_w dw25_1 11 rfl) rfl
theorem dX2_longestWithoutCross_30 : DE cX2_longestWithoutCross 30 (.ifCond .eq 7) 3 := dop_153 (dn_w dw25_1 14 rfl) rfl
theorem dX2_longestWithoutCross_33 : DE cX2_longestWithoutCross 33 (.iconst 0) 1 := dop_3 (dn_w dw25_2 1 rfl)
theorem dX2_longestWithoutCross_34 : DE cX2_longestWithoutCross 34 (.goto 6) 3 := dop_167 (dn_w dw25_2 2 rfl) rfl
theorem dX2_longestWithoutCross_37 : DE cX2_longestWithoutCross 37 (.iload_n 3) 1 := dop_29 (dn_w dw25_2 5 rfl)
theorem dX2_longestWithoutCross_38 : DE cX2_longestWithoutCross 38 (.iconst 1) 1 := dop_4 (dn_w dw25_2 6 rfl)
theorem dX2_longestWithoutCross_39 : DE cX2_longestWithoutCross 39 (.iadd) 1 := dop_96 (dn_w dw25_2 7 rfl)
theorem dX2_longestWithoutCross_40 : DE cX2_longestWithoutCross 40 (.istore_n 3) 1 := dop_62 (dn_w dw25_2 8 rfl)
theorem dX2_longestWithoutCross_41 : DE cX2_longestWithoutCross 41 (.iload_n 2) 1 := dop_28 (dn_w dw25_2 9 rfl)
theorem dX2_longestWithoutCross_42 : DE cX2_longestWithoutCross 42 (.iload_n 3) 1 := dop_29 (dn_w dw25_2 10 rfl)
theorem dX2_longestWithoutCross_43 : DE cX2_longestWithoutCross 43 (.invokestatic 109) 3 := dop_184 (dn_w dw25_2 11 rfl) rfl
theorem dX2_longestWithoutCross_46 : DE cX2_longestWithoutCross 46 (.istore_n 2) 1 := dop_61 (dn_w dw25_2 14 rfl)
theorem dX2_longestWithoutCross_47 : DE cX2_longestWithoutCross 47 (.iinc 4 1) 3 := dop_132 (dn_w dw25_2 15 rfl) rfl
theorem dX2_longestWithoutCross_50 : DE cX2_longestWithoutCross 50 (.goto (-43)) 3 := dop_167 (dn_w dw25_3 2 rfl) rfl
theorem dX2_longestWithoutCross_53 : DE cX2_longestWithoutCross 53 (.iload_n 2) 1 := dop_28 (dn_w dw25_3 5 rfl)
theorem dX2_longestWithoutCross_54 : DE cX2_longestWithoutCross 54 (.ireturn) 1 := dop_172 (dn_w dw25_3 6 rfl)
noncomputable def dt26_3 : List Nat := 214 :: 28 :: 172 :: []
noncomputable def dt26_2 : List Nat := 4 :: 29 :: 120 :: 128 :: 61 :: 132 :: 4 :: 1 :: 167 :: 255 :: 229 :: 132 :: 3 :: 1 :: 167 :: 255 :: dt26_3
noncomputable def dt26_1 : List Nat := 9 :: 163 :: 0 :: 26 :: 42 :: 27 :: 29 :: 21 :: 4 :: 182 :: 0 :: 132 :: 153 :: 0 :: 9 :: 28 :: dt26_2
noncomputable def dt26_0 : List Nat := 3 :: 61 :: 3 :: 62 :: 29 :: 16 :: 6 :: 162 :: 0 :: 42 :: 3 :: 54 :: 4 :: 21 :: 4 :: 16 :: dt26_1
theorem dw26_0 : dn cX2_kindsByBook 0 = dt26_0 := by decide +kernel
theorem dw26_1 : dn cX2_kindsByBook 16 = dt26_1 := dn_w dw26_0 16 rfl
theorem dw26_2 : dn cX2_kindsByBook 32 = dt26_2 := dn_w dw26_1 16 rfl
theorem dw26_3 : dn cX2_kindsByBook 48 = dt26_3 := dn_w dw26_2 16 rfl
theorem dX2_kindsByBook_0 : DE cX2_kindsByBook 0 (.iconst 0) 1 := dop_3 (dn_w dw26_0 0 rfl)
theorem dX2_kindsByBook_1 : DE cX2_kindsByBook 1 (.istore_n 2) 1 := dop_61 (dn_w dw26_0 1 rfl)
theorem dX2_kindsByBook_2 : DE cX2_kindsByBook 2 (.iconst 0) 1 := dop_3 (dn_w dw26_0 2 rfl)
theorem dX2_kindsByBook_3 : DE cX2_kindsByBook 3 (.istore_n 3) 1 := dop_62 (dn_w dw26_0 3 rfl)
theorem dX2_kindsByBook_4 : DE cX2_kindsByBook 4 (.iload_n 3) 1 := dop_29 (dn_w dw26_0 4 rfl)
theorem dX2_kindsByBook_5 : DE cX2_kindsByBook 5 (.bipush 6) 2 := dop_16 (dn_w dw26_0 5 rfl) rfl
theorem dX2_kindsByBook_7 : DE cX2_kindsByBook 7 (.if_icmp .ge 42) 3 := dop_162 (dn_w dw26_0 7 rfl) rfl
theorem dX2_kindsByBook_10 : DE cX2_kindsByBook 10 (.iconst 0) 1 := dop_3 (dn_w dw26_0 10 rfl)
theorem dX2_kindsByBook_11 : DE cX2_kindsByBook 11 (.istore 4) 2 := dop_54 (dn_w dw26_0 11 rfl)
theorem dX2_kindsByBook_13 : DE cX2_kindsByBook 13 (.iload 4) 2 := dop_21 (dn_w dw26_0 13 rfl)
theorem dX2_kindsByBook_15 : DE cX2_kindsByBook 15 (.bipush 9) 2 := dop_16 (dn_w dw26_0 15 rfl) rfl
theorem dX2_kindsByBook_17 : DE cX2_kindsByBook 17 (.if_icmp .gt 26) 3 := dop_163 (dn_w dw26_1 1 rfl) rfl
theorem dX2_kindsByBook_20 : DE cX2_kindsByBook 20 (.aload_n 0) 1 := dop_42 (dn_w dw26_1 4 rfl)
theorem dX2_kindsByBook_21 : DE cX2_kindsByBook 21 (.iload_n 1) 1 := dop_27 (dn_w dw26_1 5 rfl)
theorem dX2_kindsByBook_22 : DE cX2_kindsByBook 22 (.iload_n 3) 1 := dop_29 (dn_w dw26_1 6 rfl)
theorem dX2_kindsByBook_23 : DE cX2_kindsByBook 23 (.iload 4) 2 := dop_21 (dn_w dw26_1 7 rfl)
theorem dX2_kindsByBook_25 : DE cX2_kindsByBook 25 (.invokevirtual 132) 3 := dop_182 (dn_w dw26_1 9 rfl) rfl
theorem dX2_kindsByBook_28 : DE cX2_kindsByBook 28 (.ifCond .eq 9) 3 := dop_153 (dn_w dw26_1 12 rfl) rfl
theorem dX2_kindsByBook_31 : DE cX2_kindsByBook 31 (.iload_n 2) 1 := dop_28 (dn_w dw26_1 15 rfl)
theorem dX2_kindsByBook_32 : DE cX2_kindsByBook 32 (.iconst 1) 1 := dop_4 (dn_w dw26_2 0 rfl)
theorem dX2_kindsByBook_33 : DE cX2_kindsByBook 33 (.iload_n 3) 1 := dop_29 (dn_w dw26_2 1 rfl)
theorem dX2_kindsByBook_34 : DE cX2_kindsByBook 34 (.ishl) 1 := dop_120 (dn_w dw26_2 2 rfl)
theorem dX2_kindsByBook_35 : DE cX2_kindsByBook 35 (.ior) 1 := dop_128 (dn_w dw26_2 3 rfl)
theorem dX2_kindsByBook_36 : DE cX2_kindsByBook 36 (.istore_n 2) 1 := dop_61 (dn_w dw26_2 4 rfl)
theorem dX2_kindsByBook_37 : DE cX2_kindsByBook 37 (.iinc 4 1) 3 := dop_132 (dn_w dw26_2 5 rfl) rfl
theorem dX2_kindsByBook_40 : DE cX2_kindsByBook 40 (.goto (-27)) 3 := dop_167 (dn_w dw26_2 8 rfl) rfl
theorem dX2_kindsByBook_43 : DE cX2_kindsByBook 43 (.iinc 3 1) 3 := dop_132 (dn_w dw26_2 11 rfl) rfl
theorem dX2_kindsByBook_46 : DE cX2_kindsByBook 46 (.goto (-42)) 3 := dop_167 (dn_w dw26_2 14 rfl) rfl
theorem dX2_kindsByBook_49 : DE cX2_kindsByBook 49 (.iload_n 2) 1 := dop_28 (dn_w dw26_3 1 rfl)
theorem dX2_kindsByBook_50 : DE cX2_kindsByBook 50 (.ireturn) 1 := dop_172 (dn_w dw26_3 2 rfl)
noncomputable def dt27_11 : List Nat := 5 :: 132 :: 6 :: 1 :: 167 :: 255 :: 157 :: 4 :: 172 :: []
noncomputable def dt27_10 : List Nat := 3 :: 172 :: 21 :: 7 :: 153 :: 0 :: 7 :: 3 :: 167 :: 0 :: 7 :: 21 :: 5 :: 4 :: 96 :: 54 :: dt27_11
noncomputable def dt27_9 : List Nat := 182 :: 0 :: 95 :: 160 :: 0 :: 15 :: 21 :: 7 :: 154 :: 0 :: 8 :: 21 :: 4 :: 154 :: 0 :: 5 :: dt27_10
noncomputable def dt27_8 : List Nat := 90 :: 42 :: 180 :: 0 :: 58 :: 21 :: 5 :: 181 :: 0 :: 85 :: 21 :: 7 :: 42 :: 180 :: 0 :: 58 :: dt27_9
noncomputable def dt27_7 : List Nat := 181 :: 0 :: 87 :: 42 :: 180 :: 0 :: 58 :: 42 :: 180 :: 0 :: 37 :: 21 :: 6 :: 46 :: 181 :: 0 :: dt27_8
noncomputable def dt27_6 : List Nat := 89 :: 42 :: 21 :: 6 :: 27 :: 182 :: 0 :: 129 :: 54 :: 7 :: 42 :: 180 :: 0 :: 58 :: 21 :: 6 :: dt27_7
noncomputable def dt27_5 : List Nat := 6 :: 21 :: 6 :: 42 :: 180 :: 0 :: 49 :: 162 :: 0 :: 96 :: 21 :: 6 :: 16 :: 40 :: 162 :: 0 :: dt27_6
noncomputable def dt27_4 : List Nat := 0 :: 58 :: 42 :: 180 :: 0 :: 46 :: 4 :: 46 :: 181 :: 0 :: 92 :: 3 :: 54 :: 5 :: 3 :: 54 :: dt27_5
noncomputable def dt27_3 : List Nat := 0 :: 58 :: 3 :: 181 :: 0 :: 81 :: 42 :: 180 :: 0 :: 58 :: 3 :: 181 :: 0 :: 83 :: 42 :: 180 :: dt27_4
noncomputable def dt27_2 : List Nat := 77 :: 42 :: 180 :: 0 :: 58 :: 42 :: 180 :: 0 :: 21 :: 27 :: 46 :: 181 :: 0 :: 79 :: 42 :: 180 :: dt27_3
noncomputable def dt27_1 : List Nat := 4 :: 42 :: 180 :: 0 :: 58 :: 28 :: 181 :: 0 :: 75 :: 42 :: 180 :: 0 :: 58 :: 29 :: 181 :: 0 :: dt27_2
noncomputable def dt27_0 : List Nat := 28 :: 5 :: 159 :: 0 :: 8 :: 28 :: 8 :: 160 :: 0 :: 7 :: 4 :: 167 :: 0 :: 4 :: 3 :: 54 :: dt27_1
theorem dw27_0 : dn cX2_bookFits 0 = dt27_0 := by decide +kernel
theorem dw27_1 : dn cX2_bookFits 16 = dt27_1 := dn_w dw27_0 16 rfl
theorem dw27_2 : dn cX2_bookFits 32 = dt27_2 := dn_w dw27_1 16 rfl
theorem dw27_3 : dn cX2_bookFits 48 = dt27_3 := dn_w dw27_2 16 rfl
theorem dw27_4 : dn cX2_bookFits 64 = dt27_4 := dn_w dw27_3 16 rfl
theorem dw27_5 : dn cX2_bookFits 80 = dt27_5 := dn_w dw27_4 16 rfl
theorem dw27_6 : dn cX2_bookFits 96 = dt27_6 := dn_w dw27_5 16 rfl
theorem dw27_7 : dn cX2_bookFits 112 = dt27_7 := dn_w dw27_6 16 rfl
theorem dw27_8 : dn cX2_bookFits 128 = dt27_8 := dn_w dw27_7 16 rfl
theorem dw27_9 : dn cX2_bookFits 144 = dt27_9 := dn_w dw27_8 16 rfl
theorem dw27_10 : dn cX2_bookFits 160 = dt27_10 := dn_w dw27_9 16 rfl
theorem dw27_11 : dn cX2_bookFits 176 = dt27_11 := dn_w dw27_10 16 rfl
theorem dX2_bookFits_0 : DE cX2_bookFits 0 (.iload_n 2) 1 := dop_28 (dn_w dw27_0 0 rfl)
theorem dX2_bookFits_1 : DE cX2_bookFits 1 (.iconst 2) 1 := dop_5 (dn_w dw27_0 1 rfl)
theorem dX2_bookFits_2 : DE cX2_bookFits 2 (.if_icmp .eq 8) 3 := dop_159 (dn_w dw27_0 2 rfl) rfl
theorem dX2_bookFits_5 : DE cX2_bookFits 5 (.iload_n 2) 1 := dop_28 (dn_w dw27_0 5 rfl)
theorem dX2_bookFits_6 : DE cX2_bookFits 6 (.iconst 5) 1 := dop_8 (dn_w dw27_0 6 rfl)
theorem dX2_bookFits_7 : DE cX2_bookFits 7 (.if_icmp .ne 7) 3 := dop_160 (dn_w dw27_0 7 rfl) rfl
theorem dX2_bookFits_10 : DE cX2_bookFits 10 (.iconst 1) 1 := dop_4 (dn_w dw27_0 10 rfl)
theorem dX2_bookFits_11 : DE cX2_bookFits 11 (.goto 4) 3 := dop_167 (dn_w dw27_0 11 rfl) rfl
theorem dX2_bookFits_14 : DE cX2_bookFits 14 (.iconst 0) 1 := dop_3 (dn_w dw27_0 14 rfl)
theorem dX2_bookFits_15 : DE cX2_bookFits 15 (.istore 4) 2 := dop_54 (dn_w dw27_0 15 rfl)
theorem dX2_bookFits_17 : DE cX2_bookFits 17 (.aload_n 0) 1 := dop_42 (dn_w dw27_1 1 rfl)
theorem dX2_bookFits_18 : DE cX2_bookFits 18 (.getfield 58) 3 := dop_180 (dn_w dw27_1 2 rfl) rfl
theorem dX2_bookFits_21 : DE cX2_bookFits 21 (.iload_n 2) 1 := dop_28 (dn_w dw27_1 5 rfl)
theorem dX2_bookFits_22 : DE cX2_bookFits 22 (.putfield 75) 3 := dop_181 (dn_w dw27_1 6 rfl) rfl
theorem dX2_bookFits_25 : DE cX2_bookFits 25 (.aload_n 0) 1 := dop_42 (dn_w dw27_1 9 rfl)
theorem dX2_bookFits_26 : DE cX2_bookFits 26 (.getfield 58) 3 := dop_180 (dn_w dw27_1 10 rfl) rfl
theorem dX2_bookFits_29 : DE cX2_bookFits 29 (.iload_n 3) 1 := dop_29 (dn_w dw27_1 13 rfl)
theorem dX2_bookFits_30 : DE cX2_bookFits 30 (.putfield 77) 3 := dop_181 (dn_w dw27_1 14 rfl) rfl
theorem dX2_bookFits_33 : DE cX2_bookFits 33 (.aload_n 0) 1 := dop_42 (dn_w dw27_2 1 rfl)
theorem dX2_bookFits_34 : DE cX2_bookFits 34 (.getfield 58) 3 := dop_180 (dn_w dw27_2 2 rfl) rfl
theorem dX2_bookFits_37 : DE cX2_bookFits 37 (.aload_n 0) 1 := dop_42 (dn_w dw27_2 5 rfl)
theorem dX2_bookFits_38 : DE cX2_bookFits 38 (.getfield 21) 3 := dop_180 (dn_w dw27_2 6 rfl) rfl
theorem dX2_bookFits_41 : DE cX2_bookFits 41 (.iload_n 1) 1 := dop_27 (dn_w dw27_2 9 rfl)
theorem dX2_bookFits_42 : DE cX2_bookFits 42 (.iaload) 1 := dop_46 (dn_w dw27_2 10 rfl)
theorem dX2_bookFits_43 : DE cX2_bookFits 43 (.putfield 79) 3 := dop_181 (dn_w dw27_2 11 rfl) rfl
theorem dX2_bookFits_46 : DE cX2_bookFits 46 (.aload_n 0) 1 := dop_42 (dn_w dw27_2 14 rfl)
theorem dX2_bookFits_47 : DE cX2_bookFits 47 (.getfield 58) 3 := dop_180 (dn_w dw27_2 15 rfl) rfl
theorem dX2_bookFits_50 : DE cX2_bookFits 50 (.iconst 0) 1 := dop_3 (dn_w dw27_3 2 rfl)
theorem dX2_bookFits_51 : DE cX2_bookFits 51 (.putfield 81) 3 := dop_181 (dn_w dw27_3 3 rfl) rfl
theorem dX2_bookFits_54 : DE cX2_bookFits 54 (.aload_n 0) 1 := dop_42 (dn_w dw27_3 6 rfl)
theorem dX2_bookFits_55 : DE cX2_bookFits 55 (.getfield 58) 3 := dop_180 (dn_w dw27_3 7 rfl) rfl
theorem dX2_bookFits_58 : DE cX2_bookFits 58 (.iconst 0) 1 := dop_3 (dn_w dw27_3 10 rfl)
theorem dX2_bookFits_59 : DE cX2_bookFits 59 (.putfield 83) 3 := dop_181 (dn_w dw27_3 11 rfl) rfl
theorem dX2_bookFits_62 : DE cX2_bookFits 62 (.aload_n 0) 1 := dop_42 (dn_w dw27_3 14 rfl)
theorem dX2_bookFits_63 : DE cX2_bookFits 63 (.getfield 58) 3 := dop_180 (dn_w dw27_3 15 rfl) rfl
theorem dX2_bookFits_66 : DE cX2_bookFits 66 (.aload_n 0) 1 := dop_42 (dn_w dw27_4 2 rfl)
theorem dX2_bookFits_67 : DE cX2_bookFits 67 (.getfield 46) 3 := dop_180 (dn_w dw27_4 3 rfl) rfl
theorem dX2_bookFits_70 : DE cX2_bookFits 70 (.iconst 1) 1 := dop_4 (dn_w dw27_4 6 rfl)
theorem dX2_bookFits_71 : DE cX2_bookFits 71 (.iaload) 1 := dop_46 (dn_w dw27_4 7 rfl)
theorem dX2_bookFits_72 : DE cX2_bookFits 72 (.putfield 92) 3 := dop_181 (dn_w dw27_4 8 rfl) rfl
theorem dX2_bookFits_75 : DE cX2_bookFits 75 (.iconst 0) 1 := dop_3 (dn_w dw27_4 11 rfl)
theorem dX2_bookFits_76 : DE cX2_bookFits 76 (.istore 5) 2 := dop_54 (dn_w dw27_4 12 rfl)
theorem dX2_bookFits_78 : DE cX2_bookFits 78 (.iconst 0) 1 := dop_3 (dn_w dw27_4 14 rfl)
theorem dX2_bookFits_79 : DE cX2_bookFits 79 (.istore 6) 2 := dop_54 (dn_w dw27_4 15 rfl)
theorem dX2_bookFits_81 : DE cX2_bookFits 81 (.iload 6) 2 := dop_21 (dn_w dw27_5 1 rfl)
theorem dX2_bookFits_83 : DE cX2_bookFits 83 (.aload_n 0) 1 := dop_42 (dn_w dw27_5 3 rfl)
theorem dX2_bookFits_84 : DE cX2_bookFits 84 (.getfield 49) 3 := dop_180 (dn_w dw27_5 4 rfl) rfl
theorem dX2_bookFits_87 : DE cX2_bookFits 87 (.if_icmp .ge 96) 3 := dop_162 (dn_w dw27_5 7 rfl) rfl
theorem dX2_bookFits_90 : DE cX2_bookFits 90 (.iload 6) 2 := dop_21 (dn_w dw27_5 10 rfl)
theorem dX2_bookFits_92 : DE cX2_bookFits 92 (.bipush 40) 2 := dop_16 (dn_w dw27_5 12 rfl) rfl
theorem dX2_bookFits_94 : DE cX2_bookFits 94 (.if_icmp .ge 89) 3 := dop_162 (dn_w dw27_5 14 rfl) rfl
theorem dX2_bookFits_97 : DE cX2_bookFits 97 (.aload_n 0) 1 := dop_42 (dn_w dw27_6 1 rfl)
theorem dX2_bookFits_98 : DE cX2_bookFits 98 (.iload 6) 2 := dop_21 (dn_w dw27_6 2 rfl)
theorem dX2_bookFits_100 : DE cX2_bookFits 100 (.iload_n 1) 1 := dop_27 (dn_w dw27_6 4 rfl)
theorem dX2_bookFits_101 : DE cX2_bookFits 101 (.invokevirtual 129) 3 := dop_182 (dn_w dw27_6 5 rfl) rfl
theorem dX2_bookFits_104 : DE cX2_bookFits 104 (.istore 7) 2 := dop_54 (dn_w dw27_6 8 rfl)
theorem dX2_bookFits_106 : DE cX2_bookFits 106 (.aload_n 0) 1 := dop_42 (dn_w dw27_6 10 rfl)
theorem dX2_bookFits_107 : DE cX2_bookFits 107 (.getfield 58) 3 := dop_180 (dn_w dw27_6 11 rfl) rfl
theorem dX2_bookFits_110 : DE cX2_bookFits 110 (.iload 6) 2 := dop_21 (dn_w dw27_6 14 rfl)
theorem dX2_bookFits_112 : DE cX2_bookFits 112 (.putfield 87) 3 := dop_181 (dn_w dw27_7 0 rfl) rfl
theorem dX2_bookFits_115 : DE cX2_bookFits 115 (.aload_n 0) 1 := dop_42 (dn_w dw27_7 3 rfl)
theorem dX2_bookFits_116 : DE cX2_bookFits 116 (.getfield 58) 3 := dop_180 (dn_w dw27_7 4 rfl) rfl
theorem dX2_bookFits_119 : DE cX2_bookFits 119 (.aload_n 0) 1 := dop_42 (dn_w dw27_7 7 rfl)
theorem dX2_bookFits_120 : DE cX2_bookFits 120 (.getfield 37) 3 := dop_180 (dn_w dw27_7 8 rfl) rfl
theorem dX2_bookFits_123 : DE cX2_bookFits 123 (.iload 6) 2 := dop_21 (dn_w dw27_7 11 rfl)
theorem dX2_bookFits_125 : DE cX2_bookFits 125 (.iaload) 1 := dop_46 (dn_w dw27_7 13 rfl)
theorem dX2_bookFits_126 : DE cX2_bookFits 126 (.putfield 90) 3 := dop_181 (dn_w dw27_7 14 rfl) rfl
theorem dX2_bookFits_129 : DE cX2_bookFits 129 (.aload_n 0) 1 := dop_42 (dn_w dw27_8 1 rfl)
theorem dX2_bookFits_130 : DE cX2_bookFits 130 (.getfield 58) 3 := dop_180 (dn_w dw27_8 2 rfl) rfl
theorem dX2_bookFits_133 : DE cX2_bookFits 133 (.iload 5) 2 := dop_21 (dn_w dw27_8 5 rfl)
theorem dX2_bookFits_135 : DE cX2_bookFits 135 (.putfield 85) 3 := dop_181 (dn_w dw27_8 7 rfl) rfl
theorem dX2_bookFits_138 : DE cX2_bookFits 138 (.iload 7) 2 := dop_21 (dn_w dw27_8 10 rfl)
theorem dX2_bookFits_140 : DE cX2_bookFits 140 (.aload_n 0) 1 := dop_42 (dn_w dw27_8 12 rfl)
theorem dX2_bookFits_141 : DE cX2_bookFits 141 (.getfield 58) 3 := dop_180 (dn_w dw27_8 13 rfl) rfl
theorem dX2_bookFits_144 : DE cX2_bookFits 144 (.invokevirtual 95) 3 := dop_182 (dn_w dw27_9 0 rfl) rfl
theorem dX2_bookFits_147 : DE cX2_bookFits 147 (.if_icmp .ne 15) 3 := dop_160 (dn_w dw27_9 3 rfl) rfl
theorem dX2_bookFits_150 : DE cX2_bookFits 150 (.iload 7) 2 := dop_21 (dn_w dw27_9 6 rfl)
theorem dX2_bookFits_152 : DE cX2_bookFits 152 (.ifCond .ne 8) 3 := dop_154 (dn_w dw27_9 8 rfl) rfl
theorem dX2_bookFits_155 : DE cX2_bookFits 155 (.iload 4) 2 := dop_21 (dn_w dw27_9 11 rfl)
theorem dX2_bookFits_157 : DE cX2_bookFits 157 (.ifCond .ne 5) 3 := dop_154 (dn_w dw27_9 13 rfl) rfl
theorem dX2_bookFits_160 : DE cX2_bookFits 160 (.iconst 0) 1 := dop_3 (dn_w dw27_10 0 rfl)
theorem dX2_bookFits_161 : DE cX2_bookFits 161 (.ireturn) 1 := dop_172 (dn_w dw27_10 1 rfl)
theorem dX2_bookFits_162 : DE cX2_bookFits 162 (.iload 7) 2 := dop_21 (dn_w dw27_10 2 rfl)
theorem dX2_bookFits_164 : DE cX2_bookFits 164 (.ifCond .eq 7) 3 := dop_153 (dn_w dw27_10 4 rfl) rfl
theorem dX2_bookFits_167 : DE cX2_bookFits 167 (.iconst 0) 1 := dop_3 (dn_w dw27_10 7 rfl)
theorem dX2_bookFits_168 : DE cX2_bookFits 168 (.goto 7) 3 := dop_167 (dn_w dw27_10 8 rfl) rfl
theorem dX2_bookFits_171 : DE cX2_bookFits 171 (.iload 5) 2 := dop_21 (dn_w dw27_10 11 rfl)
theorem dX2_bookFits_173 : DE cX2_bookFits 173 (.iconst 1) 1 := dop_4 (dn_w dw27_10 13 rfl)
theorem dX2_bookFits_174 : DE cX2_bookFits 174 (.iadd) 1 := dop_96 (dn_w dw27_10 14 rfl)
theorem dX2_bookFits_175 : DE cX2_bookFits 175 (.istore 5) 2 := dop_54 (dn_w dw27_10 15 rfl)
theorem dX2_bookFits_177 : DE cX2_bookFits 177 (.iinc 6 1) 3 := dop_132 (dn_w dw27_11 1 rfl) rfl
theorem dX2_bookFits_180 : DE cX2_bookFits 180 (.goto (-99)) 3 := dop_167 (dn_w dw27_11 4 rfl) rfl
theorem dX2_bookFits_183 : DE cX2_bookFits 183 (.iconst 1) 1 := dop_4 (dn_w dw27_11 7 rfl)
theorem dX2_bookFits_184 : DE cX2_bookFits 184 (.ireturn) 1 := dop_172 (dn_w dw27_11 8 rfl)
noncomputable def dt28_4 : List Nat := 172 :: 132 :: 3 :: 255 :: 132 :: 4 :: 1 :: 167 :: 255 :: 225 :: 16 :: 253 :: 172 :: []
noncomputable def dt28_3 : List Nat := 28 :: 27 :: 21 :: 4 :: 122 :: 4 :: 126 :: 153 :: 0 :: 13 :: 29 :: 154 :: 0 :: 6 :: 21 :: 4 :: dt28_4
noncomputable def dt28_2 : List Nat := 16 :: 124 :: 28 :: 112 :: 62 :: 3 :: 54 :: 4 :: 21 :: 4 :: 42 :: 180 :: 0 :: 33 :: 162 :: 0 :: dt28_3
noncomputable def dt28_1 : List Nat := 52 :: 18 :: 136 :: 104 :: 17 :: 48 :: 57 :: 96 :: 181 :: 0 :: 52 :: 42 :: 180 :: 0 :: 52 :: 16 :: dt28_2
noncomputable def dt28_0 : List Nat := 27 :: 184 :: 0 :: 123 :: 61 :: 28 :: 157 :: 0 :: 6 :: 16 :: 253 :: 172 :: 42 :: 42 :: 180 :: 0 :: dt28_1
theorem dw28_0 : dn cX2_drawFrom 0 = dt28_0 := by decide +kernel
theorem dw28_1 : dn cX2_drawFrom 16 = dt28_1 := dn_w dw28_0 16 rfl
theorem dw28_2 : dn cX2_drawFrom 32 = dt28_2 := dn_w dw28_1 16 rfl
theorem dw28_3 : dn cX2_drawFrom 48 = dt28_3 := dn_w dw28_2 16 rfl
theorem dw28_4 : dn cX2_drawFrom 64 = dt28_4 := dn_w dw28_3 16 rfl
theorem dX2_drawFrom_0 : DE cX2_drawFrom 0 (.iload_n 1) 1 := dop_27 (dn_w dw28_0 0 rfl)
theorem dX2_drawFrom_1 : DE cX2_drawFrom 1 (.invokestatic 123) 3 := dop_184 (dn_w dw28_0 1 rfl) rfl
theorem dX2_drawFrom_4 : DE cX2_drawFrom 4 (.istore_n 2) 1 := dop_61 (dn_w dw28_0 4 rfl)
theorem dX2_drawFrom_5 : DE cX2_drawFrom 5 (.iload_n 2) 1 := dop_28 (dn_w dw28_0 5 rfl)
theorem dX2_drawFrom_6 : DE cX2_drawFrom 6 (.ifCond .gt 6) 3 := dop_157 (dn_w dw28_0 6 rfl) rfl
theorem dX2_drawFrom_9 : DE cX2_drawFrom 9 (.bipush (-3)) 2 := dop_16 (dn_w dw28_0 9 rfl) rfl
theorem dX2_drawFrom_11 : DE cX2_drawFrom 11 (.ireturn) 1 := dop_172 (dn_w dw28_0 11 rfl)
theorem dX2_drawFrom_12 : DE cX2_drawFrom 12 (.aload_n 0) 1 := dop_42 (dn_w dw28_0 12 rfl)
theorem dX2_drawFrom_13 : DE cX2_drawFrom 13 (.aload_n 0) 1 := dop_42 (dn_w dw28_0 13 rfl)
theorem dX2_drawFrom_14 : DE cX2_drawFrom 14 (.getfield 52) 3 := dop_180 (dn_w dw28_0 14 rfl) rfl
theorem dX2_drawFrom_17 : DE cX2_drawFrom 17 (.ldc 136) 2 := dop_18 (dn_w dw28_1 1 rfl)
theorem dX2_drawFrom_19 : DE cX2_drawFrom 19 (.imul) 1 := dop_104 (dn_w dw28_1 3 rfl)
theorem dX2_drawFrom_20 : DE cX2_drawFrom 20 (.sipush 12345) 3 := dop_17 (dn_w dw28_1 4 rfl) rfl
theorem dX2_drawFrom_23 : DE cX2_drawFrom 23 (.iadd) 1 := dop_96 (dn_w dw28_1 7 rfl)
theorem dX2_drawFrom_24 : DE cX2_drawFrom 24 (.putfield 52) 3 := dop_181 (dn_w dw28_1 8 rfl) rfl
theorem dX2_drawFrom_27 : DE cX2_drawFrom 27 (.aload_n 0) 1 := dop_42 (dn_w dw28_1 11 rfl)
theorem dX2_drawFrom_28 : DE cX2_drawFrom 28 (.getfield 52) 3 := dop_180 (dn_w dw28_1 12 rfl) rfl
theorem dX2_drawFrom_31 : DE cX2_drawFrom 31 (.bipush 16) 2 := dop_16 (dn_w dw28_1 15 rfl) rfl
theorem dX2_drawFrom_33 : DE cX2_drawFrom 33 (.iushr) 1 := dop_124 (dn_w dw28_2 1 rfl)
theorem dX2_drawFrom_34 : DE cX2_drawFrom 34 (.iload_n 2) 1 := dop_28 (dn_w dw28_2 2 rfl)
theorem dX2_drawFrom_35 : DE cX2_drawFrom 35 (.irem) 1 := dop_112 (dn_w dw28_2 3 rfl)
theorem dX2_drawFrom_36 : DE cX2_drawFrom 36 (.istore_n 3) 1 := dop_62 (dn_w dw28_2 4 rfl)
theorem dX2_drawFrom_37 : DE cX2_drawFrom 37 (.iconst 0) 1 := dop_3 (dn_w dw28_2 5 rfl)
theorem dX2_drawFrom_38 : DE cX2_drawFrom 38 (.istore 4) 2 := dop_54 (dn_w dw28_2 6 rfl)
theorem dX2_drawFrom_40 : DE cX2_drawFrom 40 (.iload 4) 2 := dop_21 (dn_w dw28_2 8 rfl)
theorem dX2_drawFrom_42 : DE cX2_drawFrom 42 (.aload_n 0) 1 := dop_42 (dn_w dw28_2 10 rfl)
theorem dX2_drawFrom_43 : DE cX2_drawFrom 43 (.getfield 33) 3 := dop_180 (dn_w dw28_2 11 rfl) rfl
theorem dX2_drawFrom_46 : DE cX2_drawFrom 46 (.if_icmp .ge 28) 3 := dop_162 (dn_w dw28_2 14 rfl) rfl
theorem dX2_drawFrom_49 : DE cX2_drawFrom 49 (.iload_n 1) 1 := dop_27 (dn_w dw28_3 1 rfl)
theorem dX2_drawFrom_50 : DE cX2_drawFrom 50 (.iload 4) 2 := dop_21 (dn_w dw28_3 2 rfl)
theorem dX2_drawFrom_52 : DE cX2_drawFrom 52 (.ishr) 1 := dop_122 (dn_w dw28_3 4 rfl)
theorem dX2_drawFrom_53 : DE cX2_drawFrom 53 (.iconst 1) 1 := dop_4 (dn_w dw28_3 5 rfl)
theorem dX2_drawFrom_54 : DE cX2_drawFrom 54 (.iand) 1 := dop_126 (dn_w dw28_3 6 rfl)
theorem dX2_drawFrom_55 : DE cX2_drawFrom 55 (.ifCond .eq 13) 3 := dop_153 (dn_w dw28_3 7 rfl) rfl
theorem dX2_drawFrom_58 : DE cX2_drawFrom 58 (.iload_n 3) 1 := dop_29 (dn_w dw28_3 10 rfl)
theorem dX2_drawFrom_59 : DE cX2_drawFrom 59 (.ifCond .ne 6) 3 := dop_154 (dn_w dw28_3 11 rfl) rfl
theorem dX2_drawFrom_62 : DE cX2_drawFrom 62 (.iload 4) 2 := dop_21 (dn_w dw28_3 14 rfl)
theorem dX2_drawFrom_64 : DE cX2_drawFrom 64 (.ireturn) 1 := dop_172 (dn_w dw28_4 0 rfl)
theorem dX2_drawFrom_65 : DE cX2_drawFrom 65 (.iinc 3 (-1)) 3 := dop_132 (dn_w dw28_4 1 rfl) rfl
theorem dX2_drawFrom_68 : DE cX2_drawFrom 68 (.iinc 4 1) 3 := dop_132 (dn_w dw28_4 4 rfl) rfl
theorem dX2_drawFrom_71 : DE cX2_drawFrom 71 (.goto (-31)) 3 := dop_167 (dn_w dw28_4 7 rfl) rfl
theorem dX2_drawFrom_74 : DE cX2_drawFrom 74 (.bipush (-3)) 2 := dop_16 (dn_w dw28_4 10 rfl) rfl
theorem dX2_drawFrom_76 : DE cX2_drawFrom 76 (.ireturn) 1 := dop_172 (dn_w dw28_4 12 rfl)
noncomputable def dt29_1 : List Nat := 40 :: 188 :: 11 :: 181 :: 0 :: 18 :: 177 :: []
noncomputable def dt29_0 : List Nat := 42 :: 183 :: 0 :: 3 :: 42 :: 2 :: 181 :: 0 :: 9 :: 42 :: 3 :: 181 :: 0 :: 15 :: 42 :: 16 :: dt29_1
theorem dw29_0 : dn cX3_init 0 = dt29_0 := by decide +kernel
theorem dw29_1 : dn cX3_init 16 = dt29_1 := dn_w dw29_0 16 rfl
theorem dX3_init_0 : DE cX3_init 0 (.aload_n 0) 1 := dop_42 (dn_w dw29_0 0 rfl)
theorem dX3_init_1 : DE cX3_init 1 (.invokespecial 3) 3 := dop_183 (dn_w dw29_0 1 rfl) rfl
theorem dX3_init_4 : DE cX3_init 4 (.aload_n 0) 1 := dop_42 (dn_w dw29_0 4 rfl)
theorem dX3_init_5 : DE cX3_init 5 (.iconst (-1)) 1 := dop_2 (dn_w dw29_0 5 rfl)
theorem dX3_init_6 : DE cX3_init 6 (.putfield 9) 3 := dop_181 (dn_w dw29_0 6 rfl) rfl
theorem dX3_init_9 : DE cX3_init 9 (.aload_n 0) 1 := dop_42 (dn_w dw29_0 9 rfl)
theorem dX3_init_10 : DE cX3_init 10 (.iconst 0) 1 := dop_3 (dn_w dw29_0 10 rfl)
theorem dX3_init_11 : DE cX3_init 11 (.putfield 15) 3 := dop_181 (dn_w dw29_0 11 rfl) rfl
theorem dX3_init_14 : DE cX3_init 14 (.aload_n 0) 1 := dop_42 (dn_w dw29_0 14 rfl)
theorem dX3_init_15 : DE cX3_init 15 (.bipush 40) 2 := dop_16 (dn_w dw29_0 15 rfl) rfl
theorem dX3_init_17 : decode cX3_init 17 = .ok (.newarray .long, 2) := by decide +kernel
theorem dX3_init_19 : DE cX3_init 19 (.putfield 18) 3 := dop_181 (dn_w dw29_1 3 rfl) rfl
theorem dX3_init_22 : DE cX3_init 22 (.return_) 1 := dop_177 (dn_w dw29_1 6 rfl)
noncomputable def dt30_1 : List Nat := 0 :: 16 :: 42 :: 180 :: 0 :: 18 :: 29 :: 9 :: 80 :: 132 :: 3 :: 1 :: 167 :: 255 :: 240 :: 177 :: []
noncomputable def dt30_0 : List Nat := 42 :: 27 :: 181 :: 0 :: 9 :: 42 :: 28 :: 181 :: 0 :: 15 :: 3 :: 62 :: 29 :: 16 :: 40 :: 162 :: dt30_1
theorem dw30_0 : dn cX3_becomeRow 0 = dt30_0 := by decide +kernel
theorem dw30_1 : dn cX3_becomeRow 16 = dt30_1 := dn_w dw30_0 16 rfl
theorem dX3_becomeRow_0 : DE cX3_becomeRow 0 (.aload_n 0) 1 := dop_42 (dn_w dw30_0 0 rfl)
theorem dX3_becomeRow_1 : DE cX3_becomeRow 1 (.iload_n 1) 1 := dop_27 (dn_w dw30_0 1 rfl)
theorem dX3_becomeRow_2 : DE cX3_becomeRow 2 (.putfield 9) 3 := dop_181 (dn_w dw30_0 2 rfl) rfl
theorem dX3_becomeRow_5 : DE cX3_becomeRow 5 (.aload_n 0) 1 := dop_42 (dn_w dw30_0 5 rfl)
theorem dX3_becomeRow_6 : DE cX3_becomeRow 6 (.iload_n 2) 1 := dop_28 (dn_w dw30_0 6 rfl)
theorem dX3_becomeRow_7 : DE cX3_becomeRow 7 (.putfield 15) 3 := dop_181 (dn_w dw30_0 7 rfl) rfl
theorem dX3_becomeRow_10 : DE cX3_becomeRow 10 (.iconst 0) 1 := dop_3 (dn_w dw30_0 10 rfl)
theorem dX3_becomeRow_11 : DE cX3_becomeRow 11 (.istore_n 3) 1 := dop_62 (dn_w dw30_0 11 rfl)
theorem dX3_becomeRow_12 : DE cX3_becomeRow 12 (.iload_n 3) 1 := dop_29 (dn_w dw30_0 12 rfl)
theorem dX3_becomeRow_13 : DE cX3_becomeRow 13 (.bipush 40) 2 := dop_16 (dn_w dw30_0 13 rfl) rfl
theorem dX3_becomeRow_15 : DE cX3_becomeRow 15 (.if_icmp .ge 16) 3 := dop_162 (dn_w dw30_0 15 rfl) rfl
theorem dX3_becomeRow_18 : DE cX3_becomeRow 18 (.aload_n 0) 1 := dop_42 (dn_w dw30_1 2 rfl)
theorem dX3_becomeRow_19 : DE cX3_becomeRow 19 (.getfield 18) 3 := dop_180 (dn_w dw30_1 3 rfl) rfl
theorem dX3_becomeRow_22 : DE cX3_becomeRow 22 (.iload_n 3) 1 := dop_29 (dn_w dw30_1 6 rfl)
theorem dX3_becomeRow_23 : DE cX3_becomeRow 23 (.lconst 0) 1 := dop_9 (dn_w dw30_1 7 rfl)
theorem dX3_becomeRow_24 : DE cX3_becomeRow 24 (.lastore) 1 := dop_80 (dn_w dw30_1 8 rfl)
theorem dX3_becomeRow_25 : DE cX3_becomeRow 25 (.iinc 3 1) 3 := dop_132 (dn_w dw30_1 9 rfl) rfl
theorem dX3_becomeRow_28 : DE cX3_becomeRow 28 (.goto (-16)) 3 := dop_167 (dn_w dw30_1 12 rfl) rfl
theorem dX3_becomeRow_31 : DE cX3_becomeRow 31 (.return_) 1 := dop_177 (dn_w dw30_1 15 rfl)
noncomputable def dt31_1 : List Nat := 3 :: 172 :: []
noncomputable def dt31_0 : List Nat := 27 :: 155 :: 0 :: 15 :: 27 :: 42 :: 180 :: 0 :: 15 :: 162 :: 0 :: 7 :: 4 :: 167 :: 0 :: 4 :: dt31_1
theorem dw31_0 : dn cX3_hasItem 0 = dt31_0 := by decide +kernel
theorem dw31_1 : dn cX3_hasItem 16 = dt31_1 := dn_w dw31_0 16 rfl
theorem dX3_hasItem_0 : DE cX3_hasItem 0 (.iload_n 1) 1 := dop_27 (dn_w dw31_0 0 rfl)
theorem dX3_hasItem_1 : DE cX3_hasItem 1 (.ifCond .lt 15) 3 := dop_155 (dn_w dw31_0 1 rfl) rfl
theorem dX3_hasItem_4 : DE cX3_hasItem 4 (.iload_n 1) 1 := dop_27 (dn_w dw31_0 4 rfl)
theorem dX3_hasItem_5 : DE cX3_hasItem 5 (.aload_n 0) 1 := dop_42 (dn_w dw31_0 5 rfl)
theorem dX3_hasItem_6 : DE cX3_hasItem 6 (.getfield 15) 3 := dop_180 (dn_w dw31_0 6 rfl) rfl
theorem dX3_hasItem_9 : DE cX3_hasItem 9 (.if_icmp .ge 7) 3 := dop_162 (dn_w dw31_0 9 rfl) rfl
theorem dX3_hasItem_12 : DE cX3_hasItem 12 (.iconst 1) 1 := dop_4 (dn_w dw31_0 12 rfl)
theorem dX3_hasItem_13 : DE cX3_hasItem 13 (.goto 4) 3 := dop_167 (dn_w dw31_0 13 rfl) rfl
theorem dX3_hasItem_16 : DE cX3_hasItem 16 (.iconst 0) 1 := dop_3 (dn_w dw31_1 0 rfl)
theorem dX3_hasItem_17 : DE cX3_hasItem 17 (.ireturn) 1 := dop_172 (dn_w dw31_1 1 rfl)
noncomputable def dt32_1 : List Nat := 160 :: 0 :: 7 :: 3 :: 167 :: 0 :: 5 :: 16 :: 243 :: 172 :: []
noncomputable def dt32_0 : List Nat := 42 :: 180 :: 0 :: 9 :: 2 :: 160 :: 0 :: 6 :: 16 :: 245 :: 172 :: 42 :: 180 :: 0 :: 9 :: 27 :: dt32_1
theorem dw32_0 : dn cX3_refusalAs 0 = dt32_0 := by decide +kernel
theorem dw32_1 : dn cX3_refusalAs 16 = dt32_1 := dn_w dw32_0 16 rfl
theorem dX3_refusalAs_0 : DE cX3_refusalAs 0 (.aload_n 0) 1 := dop_42 (dn_w dw32_0 0 rfl)
theorem dX3_refusalAs_1 : DE cX3_refusalAs 1 (.getfield 9) 3 := dop_180 (dn_w dw32_0 1 rfl) rfl
theorem dX3_refusalAs_4 : DE cX3_refusalAs 4 (.iconst (-1)) 1 := dop_2 (dn_w dw32_0 4 rfl)
theorem dX3_refusalAs_5 : DE cX3_refusalAs 5 (.if_icmp .ne 6) 3 := dop_160 (dn_w dw32_0 5 rfl) rfl
theorem dX3_refusalAs_8 : DE cX3_refusalAs 8 (.bipush (-11)) 2 := dop_16 (dn_w dw32_0 8 rfl) rfl
theorem dX3_refusalAs_10 : DE cX3_refusalAs 10 (.ireturn) 1 := dop_172 (dn_w dw32_0 10 rfl)
theorem dX3_refusalAs_11 : DE cX3_refusalAs 11 (.aload_n 0) 1 := dop_42 (dn_w dw32_0 11 rfl)
theorem dX3_refusalAs_12 : DE cX3_refusalAs 12 (.getfield 9) 3 := dop_180 (dn_w dw32_0 12 rfl) rfl
theorem dX3_refusalAs_15 : DE cX3_refusalAs 15 (.iload_n 1) 1 := dop_27 (dn_w dw32_0 15 rfl)
theorem dX3_refusalAs_16 : DE cX3_refusalAs 16 (.if_icmp .ne 7) 3 := dop_160 (dn_w dw32_1 0 rfl) rfl
theorem dX3_refusalAs_19 : DE cX3_refusalAs 19 (.iconst 0) 1 := dop_3 (dn_w dw32_1 3 rfl)
theorem dX3_refusalAs_20 : DE cX3_refusalAs 20 (.goto 5) 3 := dop_167 (dn_w dw32_1 4 rfl) rfl
theorem dX3_refusalAs_23 : DE cX3_refusalAs 23 (.bipush (-13)) 2 := dop_16 (dn_w dw32_1 7 rfl) rfl
theorem dX3_refusalAs_25 : DE cX3_refusalAs 25 (.ireturn) 1 := dop_172 (dn_w dw32_1 9 rfl)
noncomputable def dt33_2 : List Nat := 27 :: 145 :: 133 :: 173 :: 27 :: 147 :: 133 :: 173 :: 27 :: 133 :: 173 :: []
noncomputable def dt33_1 : List Nat := 0 :: 0 :: 0 :: 0 :: 0 :: 0 :: 0 :: 28 :: 0 :: 0 :: 0 :: 1 :: 0 :: 0 :: 0 :: 32 :: dt33_2
noncomputable def dt33_0 : List Nat := 42 :: 180 :: 0 :: 9 :: 171 :: 0 :: 0 :: 0 :: 0 :: 0 :: 0 :: 36 :: 0 :: 0 :: 0 :: 2 :: dt33_1
theorem dw33_0 : dn cX3_narrowed 0 = dt33_0 := by decide +kernel
theorem dw33_1 : dn cX3_narrowed 16 = dt33_1 := dn_w dw33_0 16 rfl
theorem dw33_2 : dn cX3_narrowed 32 = dt33_2 := dn_w dw33_1 16 rfl
theorem dX3_narrowed_0 : DE cX3_narrowed 0 (.aload_n 0) 1 := dop_42 (dn_w dw33_0 0 rfl)
theorem dX3_narrowed_1 : DE cX3_narrowed 1 (.getfield 9) 3 := dop_180 (dn_w dw33_0 1 rfl) rfl
theorem dX3_narrowed_4 : decode cX3_narrowed 4 = .ok (.lookupswitch 36 #[(0, 28), (1, 32)], 28) := by decide +kernel
theorem dX3_narrowed_32 : DE cX3_narrowed 32 (.iload_n 1) 1 := dop_27 (dn_w dw33_2 0 rfl)
theorem dX3_narrowed_33 : DE cX3_narrowed 33 (.i2b) 1 := dop_145 (dn_w dw33_2 1 rfl)
theorem dX3_narrowed_34 : DE cX3_narrowed 34 (.i2l) 1 := dop_133 (dn_w dw33_2 2 rfl)
theorem dX3_narrowed_35 : DE cX3_narrowed 35 (.lreturn) 1 := dop_173 (dn_w dw33_2 3 rfl)
theorem dX3_narrowed_36 : DE cX3_narrowed 36 (.iload_n 1) 1 := dop_27 (dn_w dw33_2 4 rfl)
theorem dX3_narrowed_37 : DE cX3_narrowed 37 (.i2s) 1 := dop_147 (dn_w dw33_2 5 rfl)
theorem dX3_narrowed_38 : DE cX3_narrowed 38 (.i2l) 1 := dop_133 (dn_w dw33_2 6 rfl)
theorem dX3_narrowed_39 : DE cX3_narrowed 39 (.lreturn) 1 := dop_173 (dn_w dw33_2 7 rfl)
theorem dX3_narrowed_40 : DE cX3_narrowed 40 (.iload_n 1) 1 := dop_27 (dn_w dw33_2 8 rfl)
theorem dX3_narrowed_41 : DE cX3_narrowed 41 (.i2l) 1 := dop_133 (dn_w dw33_2 9 rfl)
theorem dX3_narrowed_42 : DE cX3_narrowed 42 (.lreturn) 1 := dop_173 (dn_w dw33_2 10 rfl)
noncomputable def dt34_1 : List Nat := 181 :: 0 :: 18 :: 177 :: []
noncomputable def dt34_0 : List Nat := 42 :: 183 :: 0 :: 3 :: 42 :: 5 :: 181 :: 0 :: 9 :: 42 :: 3 :: 181 :: 0 :: 15 :: 42 :: 3 :: dt34_1
theorem dw34_0 : dn cX4_init 0 = dt34_0 := by decide +kernel
theorem dw34_1 : dn cX4_init 16 = dt34_1 := dn_w dw34_0 16 rfl
theorem dX4_init_0 : DE cX4_init 0 (.aload_n 0) 1 := dop_42 (dn_w dw34_0 0 rfl)
theorem dX4_init_1 : DE cX4_init 1 (.invokespecial 3) 3 := dop_183 (dn_w dw34_0 1 rfl) rfl
theorem dX4_init_4 : DE cX4_init 4 (.aload_n 0) 1 := dop_42 (dn_w dw34_0 4 rfl)
theorem dX4_init_5 : DE cX4_init 5 (.iconst 2) 1 := dop_5 (dn_w dw34_0 5 rfl)
theorem dX4_init_6 : DE cX4_init 6 (.putfield 9) 3 := dop_181 (dn_w dw34_0 6 rfl) rfl
theorem dX4_init_9 : DE cX4_init 9 (.aload_n 0) 1 := dop_42 (dn_w dw34_0 9 rfl)
theorem dX4_init_10 : DE cX4_init 10 (.iconst 0) 1 := dop_3 (dn_w dw34_0 10 rfl)
theorem dX4_init_11 : DE cX4_init 11 (.putfield 15) 3 := dop_181 (dn_w dw34_0 11 rfl) rfl
theorem dX4_init_14 : DE cX4_init 14 (.aload_n 0) 1 := dop_42 (dn_w dw34_0 14 rfl)
theorem dX4_init_15 : DE cX4_init 15 (.iconst 0) 1 := dop_3 (dn_w dw34_0 15 rfl)
theorem dX4_init_16 : DE cX4_init 16 (.putfield 18) 3 := dop_181 (dn_w dw34_1 0 rfl) rfl
theorem dX4_init_19 : DE cX4_init 19 (.return_) 1 := dop_177 (dn_w dw34_1 3 rfl)
noncomputable def dt35_0 : List Nat := 42 :: 3 :: 181 :: 0 :: 9 :: 42 :: 27 :: 181 :: 0 :: 15 :: 177 :: []
theorem dw35_0 : dn cX4_holdChild 0 = dt35_0 := by decide +kernel
theorem dX4_holdChild_0 : DE cX4_holdChild 0 (.aload_n 0) 1 := dop_42 (dn_w dw35_0 0 rfl)
theorem dX4_holdChild_1 : DE cX4_holdChild 1 (.iconst 0) 1 := dop_3 (dn_w dw35_0 1 rfl)
theorem dX4_holdChild_2 : DE cX4_holdChild 2 (.putfield 9) 3 := dop_181 (dn_w dw35_0 2 rfl) rfl
theorem dX4_holdChild_5 : DE cX4_holdChild 5 (.aload_n 0) 1 := dop_42 (dn_w dw35_0 5 rfl)
theorem dX4_holdChild_6 : DE cX4_holdChild 6 (.iload_n 1) 1 := dop_27 (dn_w dw35_0 6 rfl)
theorem dX4_holdChild_7 : DE cX4_holdChild 7 (.putfield 15) 3 := dop_181 (dn_w dw35_0 7 rfl) rfl
theorem dX4_holdChild_10 : DE cX4_holdChild 10 (.return_) 1 := dop_177 (dn_w dw35_0 10 rfl)
noncomputable def dt36_0 : List Nat := 42 :: 4 :: 181 :: 0 :: 9 :: 42 :: 28 :: 181 :: 0 :: 15 :: 42 :: 27 :: 181 :: 0 :: 18 :: 177 :: []
theorem dw36_0 : dn cX4_holdRow 0 = dt36_0 := by decide +kernel
theorem dX4_holdRow_0 : DE cX4_holdRow 0 (.aload_n 0) 1 := dop_42 (dn_w dw36_0 0 rfl)
theorem dX4_holdRow_1 : DE cX4_holdRow 1 (.iconst 1) 1 := dop_4 (dn_w dw36_0 1 rfl)
theorem dX4_holdRow_2 : DE cX4_holdRow 2 (.putfield 9) 3 := dop_181 (dn_w dw36_0 2 rfl) rfl
theorem dX4_holdRow_5 : DE cX4_holdRow 5 (.aload_n 0) 1 := dop_42 (dn_w dw36_0 5 rfl)
theorem dX4_holdRow_6 : DE cX4_holdRow 6 (.iload_n 2) 1 := dop_28 (dn_w dw36_0 6 rfl)
theorem dX4_holdRow_7 : DE cX4_holdRow 7 (.putfield 15) 3 := dop_181 (dn_w dw36_0 7 rfl) rfl
theorem dX4_holdRow_10 : DE cX4_holdRow 10 (.aload_n 0) 1 := dop_42 (dn_w dw36_0 10 rfl)
theorem dX4_holdRow_11 : DE cX4_holdRow 11 (.iload_n 1) 1 := dop_27 (dn_w dw36_0 11 rfl)
theorem dX4_holdRow_12 : DE cX4_holdRow 12 (.putfield 18) 3 := dop_181 (dn_w dw36_0 12 rfl) rfl
theorem dX4_holdRow_15 : DE cX4_holdRow 15 (.return_) 1 := dop_177 (dn_w dw36_0 15 rfl)
noncomputable def dt37_2 : List Nat := 0 :: 26 :: 42 :: 3 :: 181 :: 0 :: 29 :: 42 :: 2 :: 181 :: 0 :: 32 :: 177 :: []
noncomputable def dt37_1 : List Nat := 0 :: 15 :: 42 :: 187 :: 0 :: 19 :: 89 :: 183 :: 0 :: 21 :: 181 :: 0 :: 22 :: 42 :: 3 :: 181 :: dt37_2
noncomputable def dt37_0 : List Nat := 42 :: 183 :: 0 :: 3 :: 42 :: 17 :: 0 :: 240 :: 188 :: 8 :: 181 :: 0 :: 11 :: 42 :: 3 :: 181 :: dt37_1
theorem dw37_0 : dn cX5_init 0 = dt37_0 := by decide +kernel
theorem dw37_1 : dn cX5_init 16 = dt37_1 := dn_w dw37_0 16 rfl
theorem dw37_2 : dn cX5_init 32 = dt37_2 := dn_w dw37_1 16 rfl
theorem dX5_init_0 : DE cX5_init 0 (.aload_n 0) 1 := dop_42 (dn_w dw37_0 0 rfl)
theorem dX5_init_1 : DE cX5_init 1 (.invokespecial 3) 3 := dop_183 (dn_w dw37_0 1 rfl) rfl
theorem dX5_init_4 : DE cX5_init 4 (.aload_n 0) 1 := dop_42 (dn_w dw37_0 4 rfl)
theorem dX5_init_5 : DE cX5_init 5 (.sipush 240) 3 := dop_17 (dn_w dw37_0 5 rfl) rfl
theorem dX5_init_8 : decode cX5_init 8 = .ok (.newarray .byte, 2) := by decide +kernel
theorem dX5_init_10 : DE cX5_init 10 (.putfield 11) 3 := dop_181 (dn_w dw37_0 10 rfl) rfl
theorem dX5_init_13 : DE cX5_init 13 (.aload_n 0) 1 := dop_42 (dn_w dw37_0 13 rfl)
theorem dX5_init_14 : DE cX5_init 14 (.iconst 0) 1 := dop_3 (dn_w dw37_0 14 rfl)
theorem dX5_init_15 : DE cX5_init 15 (.putfield 15) 3 := dop_181 (dn_w dw37_0 15 rfl) rfl
theorem dX5_init_18 : DE cX5_init 18 (.aload_n 0) 1 := dop_42 (dn_w dw37_1 2 rfl)
theorem dX5_init_19 : DE cX5_init 19 (.new 19) 3 := dop_187 (dn_w dw37_1 3 rfl) rfl
theorem dX5_init_22 : DE cX5_init 22 (.dup) 1 := dop_89 (dn_w dw37_1 6 rfl)
theorem dX5_init_23 : DE cX5_init 23 (.invokespecial 21) 3 := dop_183 (dn_w dw37_1 7 rfl) rfl
theorem dX5_init_26 : DE cX5_init 26 (.putfield 22) 3 := dop_181 (dn_w dw37_1 10 rfl) rfl
theorem dX5_init_29 : DE cX5_init 29 (.aload_n 0) 1 := dop_42 (dn_w dw37_1 13 rfl)
theorem dX5_init_30 : DE cX5_init 30 (.iconst 0) 1 := dop_3 (dn_w dw37_1 14 rfl)
theorem dX5_init_31 : DE cX5_init 31 (.putfield 26) 3 := dop_181 (dn_w dw37_1 15 rfl) rfl
theorem dX5_init_34 : DE cX5_init 34 (.aload_n 0) 1 := dop_42 (dn_w dw37_2 2 rfl)
theorem dX5_init_35 : DE cX5_init 35 (.iconst 0) 1 := dop_3 (dn_w dw37_2 3 rfl)
theorem dX5_init_36 : DE cX5_init 36 (.putfield 29) 3 := dop_181 (dn_w dw37_2 4 rfl) rfl
theorem dX5_init_39 : DE cX5_init 39 (.aload_n 0) 1 := dop_42 (dn_w dw37_2 7 rfl)
theorem dX5_init_40 : DE cX5_init 40 (.iconst (-1)) 1 := dop_2 (dn_w dw37_2 8 rfl)
theorem dX5_init_41 : DE cX5_init 41 (.putfield 32) 3 := dop_181 (dn_w dw37_2 9 rfl) rfl
theorem dX5_init_44 : DE cX5_init 44 (.return_) 1 := dop_177 (dn_w dw37_2 12 rfl)
noncomputable def dt38_3 : List Nat := 181 :: 0 :: 15 :: 132 :: 4 :: 1 :: 167 :: 255 :: 219 :: 4 :: 172 :: []
noncomputable def dt38_2 : List Nat := 16 :: 8 :: 21 :: 4 :: 104 :: 123 :: 136 :: 145 :: 84 :: 42 :: 89 :: 180 :: 0 :: 15 :: 4 :: 96 :: dt38_3
noncomputable def dt38_1 : List Nat := 4 :: 21 :: 4 :: 29 :: 162 :: 0 :: 37 :: 42 :: 180 :: 0 :: 11 :: 42 :: 180 :: 0 :: 15 :: 31 :: dt38_2
noncomputable def dt38_0 : List Nat := 29 :: 17 :: 0 :: 240 :: 42 :: 180 :: 0 :: 15 :: 100 :: 164 :: 0 :: 5 :: 3 :: 172 :: 3 :: 54 :: dt38_1
theorem dw38_0 : dn cX5_takeBytes 0 = dt38_0 := by decide +kernel
theorem dw38_1 : dn cX5_takeBytes 16 = dt38_1 := dn_w dw38_0 16 rfl
theorem dw38_2 : dn cX5_takeBytes 32 = dt38_2 := dn_w dw38_1 16 rfl
theorem dw38_3 : dn cX5_takeBytes 48 = dt38_3 := dn_w dw38_2 16 rfl
theorem dX5_takeBytes_0 : DE cX5_takeBytes 0 (.iload_n 3) 1 := dop_29 (dn_w dw38_0 0 rfl)
theorem dX5_takeBytes_1 : DE cX5_takeBytes 1 (.sipush 240) 3 := dop_17 (dn_w dw38_0 1 rfl) rfl
theorem dX5_takeBytes_4 : DE cX5_takeBytes 4 (.aload_n 0) 1 := dop_42 (dn_w dw38_0 4 rfl)
theorem dX5_takeBytes_5 : DE cX5_takeBytes 5 (.getfield 15) 3 := dop_180 (dn_w dw38_0 5 rfl) rfl
theorem dX5_takeBytes_8 : DE cX5_takeBytes 8 (.isub) 1 := dop_100 (dn_w dw38_0 8 rfl)
theorem dX5_takeBytes_9 : DE cX5_takeBytes 9 (.if_icmp .le 5) 3 := dop_164 (dn_w dw38_0 9 rfl) rfl
theorem dX5_takeBytes_12 : DE cX5_takeBytes 12 (.iconst 0) 1 := dop_3 (dn_w dw38_0 12 rfl)
theorem dX5_takeBytes_13 : DE cX5_takeBytes 13 (.ireturn) 1 := dop_172 (dn_w dw38_0 13 rfl)
theorem dX5_takeBytes_14 : DE cX5_takeBytes 14 (.iconst 0) 1 := dop_3 (dn_w dw38_0 14 rfl)
theorem dX5_takeBytes_15 : DE cX5_takeBytes 15 (.istore 4) 2 := dop_54 (dn_w dw38_0 15 rfl)
theorem dX5_takeBytes_17 : DE cX5_takeBytes 17 (.iload 4) 2 := dop_21 (dn_w dw38_1 1 rfl)
theorem dX5_takeBytes_19 : DE cX5_takeBytes 19 (.iload_n 3) 1 := dop_29 (dn_w dw38_1 3 rfl)
theorem dX5_takeBytes_20 : DE cX5_takeBytes 20 (.if_icmp .ge 37) 3 := dop_162 (dn_w dw38_1 4 rfl) rfl
theorem dX5_takeBytes_23 : DE cX5_takeBytes 23 (.aload_n 0) 1 := dop_42 (dn_w dw38_1 7 rfl)
theorem dX5_takeBytes_24 : DE cX5_takeBytes 24 (.getfield 11) 3 := dop_180 (dn_w dw38_1 8 rfl) rfl
theorem dX5_takeBytes_27 : DE cX5_takeBytes 27 (.aload_n 0) 1 := dop_42 (dn_w dw38_1 11 rfl)
theorem dX5_takeBytes_28 : DE cX5_takeBytes 28 (.getfield 15) 3 := dop_180 (dn_w dw38_1 12 rfl) rfl
theorem dX5_takeBytes_31 : DE cX5_takeBytes 31 (.lload_n 1) 1 := dop_31 (dn_w dw38_1 15 rfl)
theorem dX5_takeBytes_32 : DE cX5_takeBytes 32 (.bipush 8) 2 := dop_16 (dn_w dw38_2 0 rfl) rfl
theorem dX5_takeBytes_34 : DE cX5_takeBytes 34 (.iload 4) 2 := dop_21 (dn_w dw38_2 2 rfl)
theorem dX5_takeBytes_36 : DE cX5_takeBytes 36 (.imul) 1 := dop_104 (dn_w dw38_2 4 rfl)
theorem dX5_takeBytes_37 : DE cX5_takeBytes 37 (.lshr) 1 := dop_123 (dn_w dw38_2 5 rfl)
theorem dX5_takeBytes_38 : DE cX5_takeBytes 38 (.l2i) 1 := dop_136 (dn_w dw38_2 6 rfl)
theorem dX5_takeBytes_39 : DE cX5_takeBytes 39 (.i2b) 1 := dop_145 (dn_w dw38_2 7 rfl)
theorem dX5_takeBytes_40 : DE cX5_takeBytes 40 (.bastore) 1 := dop_84 (dn_w dw38_2 8 rfl)
theorem dX5_takeBytes_41 : DE cX5_takeBytes 41 (.aload_n 0) 1 := dop_42 (dn_w dw38_2 9 rfl)
theorem dX5_takeBytes_42 : DE cX5_takeBytes 42 (.dup) 1 := dop_89 (dn_w dw38_2 10 rfl)
theorem dX5_takeBytes_43 : DE cX5_takeBytes 43 (.getfield 15) 3 := dop_180 (dn_w dw38_2 11 rfl) rfl
theorem dX5_takeBytes_46 : DE cX5_takeBytes 46 (.iconst 1) 1 := dop_4 (dn_w dw38_2 14 rfl)
theorem dX5_takeBytes_47 : DE cX5_takeBytes 47 (.iadd) 1 := dop_96 (dn_w dw38_2 15 rfl)
theorem dX5_takeBytes_48 : DE cX5_takeBytes 48 (.putfield 15) 3 := dop_181 (dn_w dw38_3 0 rfl) rfl
theorem dX5_takeBytes_51 : DE cX5_takeBytes 51 (.iinc 4 1) 3 := dop_132 (dn_w dw38_3 3 rfl) rfl
theorem dX5_takeBytes_54 : DE cX5_takeBytes 54 (.goto (-37)) 3 := dop_167 (dn_w dw38_3 6 rfl) rfl
theorem dX5_takeBytes_57 : DE cX5_takeBytes 57 (.iconst 1) 1 := dop_4 (dn_w dw38_3 9 rfl)
theorem dX5_takeBytes_58 : DE cX5_takeBytes 58 (.ireturn) 1 := dop_172 (dn_w dw38_3 10 rfl)
noncomputable def dt39_4 : List Nat := 3 :: 181 :: 0 :: 15 :: 42 :: 180 :: 0 :: 32 :: 172 :: []
noncomputable def dt39_3 : List Nat := 17 :: 42 :: 182 :: 0 :: 42 :: 42 :: 182 :: 0 :: 39 :: 132 :: 2 :: 1 :: 167 :: 255 :: 220 :: 42 :: dt39_4
noncomputable def dt39_2 : List Nat := 180 :: 0 :: 26 :: 42 :: 180 :: 0 :: 15 :: 162 :: 0 :: 24 :: 42 :: 180 :: 0 :: 32 :: 156 :: 0 :: dt39_3
noncomputable def dt39_1 : List Nat := 0 :: 32 :: 42 :: 182 :: 0 :: 39 :: 3 :: 61 :: 28 :: 17 :: 0 :: 240 :: 162 :: 0 :: 35 :: 42 :: dt39_2
noncomputable def dt39_0 : List Nat := 42 :: 180 :: 0 :: 22 :: 43 :: 182 :: 0 :: 35 :: 42 :: 3 :: 181 :: 0 :: 26 :: 42 :: 2 :: 181 :: dt39_1
theorem dw39_0 : dn cX5_readTape 0 = dt39_0 := by decide +kernel
theorem dw39_1 : dn cX5_readTape 16 = dt39_1 := dn_w dw39_0 16 rfl
theorem dw39_2 : dn cX5_readTape 32 = dt39_2 := dn_w dw39_1 16 rfl
theorem dw39_3 : dn cX5_readTape 48 = dt39_3 := dn_w dw39_2 16 rfl
theorem dw39_4 : dn cX5_readTape 64 = dt39_4 := dn_w dw39_3 16 rfl
theorem dX5_readTape_0 : DE cX5_readTape 0 (.aload_n 0) 1 := dop_42 (dn_w dw39_0 0 rfl)
theorem dX5_readTape_1 : DE cX5_readTape 1 (.getfield 22) 3 := dop_180 (dn_w dw39_0 1 rfl) rfl
theorem dX5_readTape_4 : DE cX5_readTape 4 (.aload_n 1) 1 := dop_43 (dn_w dw39_0 4 rfl)
theorem dX5_readTape_5 : DE cX5_readTape 5 (.invokevirtual 35) 3 := dop_182 (dn_w dw39_0 5 rfl) rfl
theorem dX5_readTape_8 : DE cX5_readTape 8 (.aload_n 0) 1 := dop_42 (dn_w dw39_0 8 rfl)
theorem dX5_readTape_9 : DE cX5_readTape 9 (.iconst 0) 1 := dop_3 (dn_w dw39_0 9 rfl)
theorem dX5_readTape_10 : DE cX5_readTape 10 (.putfield 26) 3 := dop_181 (dn_w dw39_0 10 rfl) rfl
theorem dX5_readTape_13 : DE cX5_readTape 13 (.aload_n 0) 1 := dop_42 (dn_w dw39_0 13 rfl)
theorem dX5_readTape_14 : DE cX5_readTape 14 (.iconst (-1)) 1 := dop_2 (dn_w dw39_0 14 rfl)
theorem dX5_readTape_15 : DE cX5_readTape 15 (.putfield 32) 3 := dop_181 (dn_w dw39_0 15 rfl) rfl
theorem dX5_readTape_18 : DE cX5_readTape 18 (.aload_n 0) 1 := dop_42 (dn_w dw39_1 2 rfl)
theorem dX5_readTape_19 : DE cX5_readTape 19 (.invokevirtual 39) 3 := dop_182 (dn_w dw39_1 3 rfl) rfl
theorem dX5_readTape_22 : DE cX5_readTape 22 (.iconst 0) 1 := dop_3 (dn_w dw39_1 6 rfl)
theorem dX5_readTape_23 : DE cX5_readTape 23 (.istore_n 2) 1 := dop_61 (dn_w dw39_1 7 rfl)
theorem dX5_readTape_24 : DE cX5_readTape 24 (.iload_n 2) 1 := dop_28 (dn_w dw39_1 8 rfl)
theorem dX5_readTape_25 : DE cX5_readTape 25 (.sipush 240) 3 := dop_17 (dn_w dw39_1 9 rfl) rfl
theorem dX5_readTape_28 : DE cX5_readTape 28 (.if_icmp .ge 35) 3 := dop_162 (dn_w dw39_1 12 rfl) rfl
theorem dX5_readTape_31 : DE cX5_readTape 31 (.aload_n 0) 1 := dop_42 (dn_w dw39_1 15 rfl)
theorem dX5_readTape_32 : DE cX5_readTape 32 (.getfield 26) 3 := dop_180 (dn_w dw39_2 0 rfl) rfl
theorem dX5_readTape_35 : DE cX5_readTape 35 (.aload_n 0) 1 := dop_42 (dn_w dw39_2 3 rfl)
theorem dX5_readTape_36 : DE cX5_readTape 36 (.getfield 15) 3 := dop_180 (dn_w dw39_2 4 rfl) rfl
theorem dX5_readTape_39 : DE cX5_readTape 39 (.if_icmp .ge 24) 3 := dop_162 (dn_w dw39_2 7 rfl) rfl
theorem dX5_readTape_42 : DE cX5_readTape 42 (.aload_n 0) 1 := dop_42 (dn_w dw39_2 10 rfl)
theorem dX5_readTape_43 : DE cX5_readTape 43 (.getfield 32) 3 := dop_180 (dn_w dw39_2 11 rfl) rfl
theorem dX5_readTape_46 : DE cX5_readTape 46 (.ifCond .ge 17) 3 := dop_156 (dn_w dw39_2 14 rfl) rfl
theorem dX5_readTape_49 : DE cX5_readTape 49 (.aload_n 0) 1 := dop_42 (dn_w dw39_3 1 rfl)
theorem dX5_readTape_50 : DE cX5_readTape 50 (.invokevirtual 42) 3 := dop_182 (dn_w dw39_3 2 rfl) rfl
theorem dX5_readTape_53 : DE cX5_readTape 53 (.aload_n 0) 1 := dop_42 (dn_w dw39_3 5 rfl)
theorem dX5_readTape_54 : DE cX5_readTape 54 (.invokevirtual 39) 3 := dop_182 (dn_w dw39_3 6 rfl) rfl
theorem dX5_readTape_57 : DE cX5_readTape 57 (.iinc 2 1) 3 := dop_132 (dn_w dw39_3 9 rfl) rfl
theorem dX5_readTape_60 : DE cX5_readTape 60 (.goto (-36)) 3 := dop_167 (dn_w dw39_3 12 rfl) rfl
theorem dX5_readTape_63 : DE cX5_readTape 63 (.aload_n 0) 1 := dop_42 (dn_w dw39_3 15 rfl)
theorem dX5_readTape_64 : DE cX5_readTape 64 (.iconst 0) 1 := dop_3 (dn_w dw39_4 0 rfl)
theorem dX5_readTape_65 : DE cX5_readTape 65 (.putfield 15) 3 := dop_181 (dn_w dw39_4 1 rfl) rfl
theorem dX5_readTape_68 : DE cX5_readTape 68 (.aload_n 0) 1 := dop_42 (dn_w dw39_4 4 rfl)
theorem dX5_readTape_69 : DE cX5_readTape 69 (.getfield 32) 3 := dop_180 (dn_w dw39_4 5 rfl) rfl
theorem dX5_readTape_72 : DE cX5_readTape 72 (.ireturn) 1 := dop_172 (dn_w dw39_4 8 rfl)
noncomputable def dt40_11 : List Nat := 0 :: 76 :: 177 :: []
noncomputable def dt40_10 : List Nat := 0 :: 26 :: 4 :: 96 :: 181 :: 0 :: 26 :: 167 :: 0 :: 11 :: 42 :: 42 :: 180 :: 0 :: 26 :: 182 :: dt40_11
noncomputable def dt40_9 : List Nat := 180 :: 0 :: 11 :: 42 :: 180 :: 0 :: 26 :: 51 :: 16 :: 59 :: 160 :: 0 :: 16 :: 42 :: 89 :: 180 :: dt40_10
noncomputable def dt40_8 : List Nat := 42 :: 182 :: 0 :: 39 :: 42 :: 180 :: 0 :: 26 :: 42 :: 180 :: 0 :: 15 :: 162 :: 0 :: 30 :: 42 :: dt40_9
noncomputable def dt40_7 : List Nat := 0 :: 69 :: 4 :: 46 :: 182 :: 0 :: 55 :: 79 :: 167 :: 0 :: 8 :: 42 :: 27 :: 182 :: 0 :: 72 :: dt40_8
noncomputable def dt40_6 : List Nat := 34 :: 42 :: 180 :: 0 :: 22 :: 180 :: 0 :: 62 :: 4 :: 42 :: 178 :: 0 :: 66 :: 4 :: 46 :: 178 :: dt40_7
noncomputable def dt40_5 : List Nat := 178 :: 0 :: 66 :: 3 :: 46 :: 178 :: 0 :: 69 :: 3 :: 46 :: 182 :: 0 :: 55 :: 79 :: 167 :: 0 :: dt40_6
noncomputable def dt40_4 : List Nat := 55 :: 181 :: 0 :: 59 :: 167 :: 0 :: 60 :: 42 :: 180 :: 0 :: 22 :: 180 :: 0 :: 62 :: 3 :: 42 :: dt40_5
noncomputable def dt40_3 : List Nat := 182 :: 0 :: 52 :: 167 :: 0 :: 77 :: 42 :: 180 :: 0 :: 22 :: 42 :: 3 :: 16 :: 40 :: 182 :: 0 :: dt40_4
noncomputable def dt40_2 : List Nat := 0 :: 0 :: 0 :: 65 :: 0 :: 0 :: 0 :: 91 :: 42 :: 182 :: 0 :: 49 :: 167 :: 0 :: 84 :: 42 :: dt40_3
noncomputable def dt40_1 : List Nat := 0 :: 0 :: 0 :: 12 :: 0 :: 0 :: 0 :: 34 :: 0 :: 0 :: 0 :: 41 :: 0 :: 0 :: 0 :: 48 :: dt40_2
noncomputable def dt40_0 : List Nat := 42 :: 182 :: 0 :: 45 :: 60 :: 27 :: 170 :: 0 :: 0 :: 0 :: 0 :: 117 :: 0 :: 0 :: 0 :: 8 :: dt40_1
theorem dw40_0 : dn cX5_readItem 0 = dt40_0 := by decide +kernel
theorem dw40_1 : dn cX5_readItem 16 = dt40_1 := dn_w dw40_0 16 rfl
theorem dw40_2 : dn cX5_readItem 32 = dt40_2 := dn_w dw40_1 16 rfl
theorem dw40_3 : dn cX5_readItem 48 = dt40_3 := dn_w dw40_2 16 rfl
theorem dw40_4 : dn cX5_readItem 64 = dt40_4 := dn_w dw40_3 16 rfl
theorem dw40_5 : dn cX5_readItem 80 = dt40_5 := dn_w dw40_4 16 rfl
theorem dw40_6 : dn cX5_readItem 96 = dt40_6 := dn_w dw40_5 16 rfl
theorem dw40_7 : dn cX5_readItem 112 = dt40_7 := dn_w dw40_6 16 rfl
theorem dw40_8 : dn cX5_readItem 128 = dt40_8 := dn_w dw40_7 16 rfl
theorem dw40_9 : dn cX5_readItem 144 = dt40_9 := dn_w dw40_8 16 rfl
theorem dw40_10 : dn cX5_readItem 160 = dt40_10 := dn_w dw40_9 16 rfl
theorem dw40_11 : dn cX5_readItem 176 = dt40_11 := dn_w dw40_10 16 rfl
theorem dX5_readItem_0 : DE cX5_readItem 0 (.aload_n 0) 1 := dop_42 (dn_w dw40_0 0 rfl)
theorem dX5_readItem_1 : DE cX5_readItem 1 (.invokevirtual 45) 3 := dop_182 (dn_w dw40_0 1 rfl) rfl
theorem dX5_readItem_4 : DE cX5_readItem 4 (.istore_n 1) 1 := dop_60 (dn_w dw40_0 4 rfl)
theorem dX5_readItem_5 : DE cX5_readItem 5 (.iload_n 1) 1 := dop_27 (dn_w dw40_0 5 rfl)
theorem dX5_readItem_6 : decode cX5_readItem 6 = .ok (.tableswitch 117 8 12 #[34, 41, 48, 65, 91], 34) := by decide +kernel
theorem dX5_readItem_40 : DE cX5_readItem 40 (.aload_n 0) 1 := dop_42 (dn_w dw40_2 8 rfl)
theorem dX5_readItem_41 : DE cX5_readItem 41 (.invokevirtual 49) 3 := dop_182 (dn_w dw40_2 9 rfl) rfl
theorem dX5_readItem_44 : DE cX5_readItem 44 (.goto 84) 3 := dop_167 (dn_w dw40_2 12 rfl) rfl
theorem dX5_readItem_47 : DE cX5_readItem 47 (.aload_n 0) 1 := dop_42 (dn_w dw40_2 15 rfl)
theorem dX5_readItem_48 : DE cX5_readItem 48 (.invokevirtual 52) 3 := dop_182 (dn_w dw40_3 0 rfl) rfl
theorem dX5_readItem_51 : DE cX5_readItem 51 (.goto 77) 3 := dop_167 (dn_w dw40_3 3 rfl) rfl
theorem dX5_readItem_54 : DE cX5_readItem 54 (.aload_n 0) 1 := dop_42 (dn_w dw40_3 6 rfl)
theorem dX5_readItem_55 : DE cX5_readItem 55 (.getfield 22) 3 := dop_180 (dn_w dw40_3 7 rfl) rfl
theorem dX5_readItem_58 : DE cX5_readItem 58 (.aload_n 0) 1 := dop_42 (dn_w dw40_3 10 rfl)
theorem dX5_readItem_59 : DE cX5_readItem 59 (.iconst 0) 1 := dop_3 (dn_w dw40_3 11 rfl)
theorem dX5_readItem_60 : DE cX5_readItem 60 (.bipush 40) 2 := dop_16 (dn_w dw40_3 12 rfl) rfl
theorem dX5_readItem_62 : DE cX5_readItem 62 (.invokevirtual 55) 3 := dop_182 (dn_w dw40_3 14 rfl) rfl
theorem dX5_readItem_65 : DE cX5_readItem 65 (.putfield 59) 3 := dop_181 (dn_w dw40_4 1 rfl) rfl
theorem dX5_readItem_68 : DE cX5_readItem 68 (.goto 60) 3 := dop_167 (dn_w dw40_4 4 rfl) rfl
theorem dX5_readItem_71 : DE cX5_readItem 71 (.aload_n 0) 1 := dop_42 (dn_w dw40_4 7 rfl)
theorem dX5_readItem_72 : DE cX5_readItem 72 (.getfield 22) 3 := dop_180 (dn_w dw40_4 8 rfl) rfl
theorem dX5_readItem_75 : DE cX5_readItem 75 (.getfield 62) 3 := dop_180 (dn_w dw40_4 11 rfl) rfl
theorem dX5_readItem_78 : DE cX5_readItem 78 (.iconst 0) 1 := dop_3 (dn_w dw40_4 14 rfl)
theorem dX5_readItem_79 : DE cX5_readItem 79 (.aload_n 0) 1 := dop_42 (dn_w dw40_4 15 rfl)
theorem dX5_readItem_80 : DE cX5_readItem 80 (.getstatic 66) 3 := dop_178 (dn_w dw40_5 0 rfl) rfl
theorem dX5_readItem_83 : DE cX5_readItem 83 (.iconst 0) 1 := dop_3 (dn_w dw40_5 3 rfl)
theorem dX5_readItem_84 : DE cX5_readItem 84 (.iaload) 1 := dop_46 (dn_w dw40_5 4 rfl)
theorem dX5_readItem_85 : DE cX5_readItem 85 (.getstatic 69) 3 := dop_178 (dn_w dw40_5 5 rfl) rfl
theorem dX5_readItem_88 : DE cX5_readItem 88 (.iconst 0) 1 := dop_3 (dn_w dw40_5 8 rfl)
theorem dX5_readItem_89 : DE cX5_readItem 89 (.iaload) 1 := dop_46 (dn_w dw40_5 9 rfl)
theorem dX5_readItem_90 : DE cX5_readItem 90 (.invokevirtual 55) 3 := dop_182 (dn_w dw40_5 10 rfl) rfl
theorem dX5_readItem_93 : DE cX5_readItem 93 (.iastore) 1 := dop_79 (dn_w dw40_5 13 rfl)
theorem dX5_readItem_94 : DE cX5_readItem 94 (.goto 34) 3 := dop_167 (dn_w dw40_5 14 rfl) rfl
theorem dX5_readItem_97 : DE cX5_readItem 97 (.aload_n 0) 1 := dop_42 (dn_w dw40_6 1 rfl)
theorem dX5_readItem_98 : DE cX5_readItem 98 (.getfield 22) 3 := dop_180 (dn_w dw40_6 2 rfl) rfl
theorem dX5_readItem_101 : DE cX5_readItem 101 (.getfield 62) 3 := dop_180 (dn_w dw40_6 5 rfl) rfl
theorem dX5_readItem_104 : DE cX5_readItem 104 (.iconst 1) 1 := dop_4 (dn_w dw40_6 8 rfl)
theorem dX5_readItem_105 : DE cX5_readItem 105 (.aload_n 0) 1 := dop_42 (dn_w dw40_6 9 rfl)
theorem dX5_readItem_106 : DE cX5_readItem 106 (.getstatic 66) 3 := dop_178 (dn_w dw40_6 10 rfl) rfl
theorem dX5_readItem_109 : DE cX5_readItem 109 (.iconst 1) 1 := dop_4 (dn_w dw40_6 13 rfl)
theorem dX5_readItem_110 : DE cX5_readItem 110 (.iaload) 1 := dop_46 (dn_w dw40_6 14 rfl)
theorem dX5_readItem_111 : DE cX5_readItem 111 (.getstatic 69) 3 := dop_178 (dn_w dw40_6 15 rfl) rfl
theorem dX5_readItem_114 : DE cX5_readItem 114 (.iconst 1) 1 := dop_4 (dn_w dw40_7 2 rfl)
theorem dX5_readItem_115 : DE cX5_readItem 115 (.iaload) 1 := dop_46 (dn_w dw40_7 3 rfl)
theorem dX5_readItem_116 : DE cX5_readItem 116 (.invokevirtual 55) 3 := dop_182 (dn_w dw40_7 4 rfl) rfl
theorem dX5_readItem_119 : DE cX5_readItem 119 (.iastore) 1 := dop_79 (dn_w dw40_7 7 rfl)
theorem dX5_readItem_120 : DE cX5_readItem 120 (.goto 8) 3 := dop_167 (dn_w dw40_7 8 rfl) rfl
theorem dX5_readItem_123 : DE cX5_readItem 123 (.aload_n 0) 1 := dop_42 (dn_w dw40_7 11 rfl)
theorem dX5_readItem_124 : DE cX5_readItem 124 (.iload_n 1) 1 := dop_27 (dn_w dw40_7 12 rfl)
theorem dX5_readItem_125 : DE cX5_readItem 125 (.invokevirtual 72) 3 := dop_182 (dn_w dw40_7 13 rfl) rfl
theorem dX5_readItem_128 : DE cX5_readItem 128 (.aload_n 0) 1 := dop_42 (dn_w dw40_8 0 rfl)
theorem dX5_readItem_129 : DE cX5_readItem 129 (.invokevirtual 39) 3 := dop_182 (dn_w dw40_8 1 rfl) rfl
theorem dX5_readItem_132 : DE cX5_readItem 132 (.aload_n 0) 1 := dop_42 (dn_w dw40_8 4 rfl)
theorem dX5_readItem_133 : DE cX5_readItem 133 (.getfield 26) 3 := dop_180 (dn_w dw40_8 5 rfl) rfl
theorem dX5_readItem_136 : DE cX5_readItem 136 (.aload_n 0) 1 := dop_42 (dn_w dw40_8 8 rfl)
theorem dX5_readItem_137 : DE cX5_readItem 137 (.getfield 15) 3 := dop_180 (dn_w dw40_8 9 rfl) rfl
theorem dX5_readItem_140 : DE cX5_readItem 140 (.if_icmp .ge 30) 3 := dop_162 (dn_w dw40_8 12 rfl) rfl
theorem dX5_readItem_143 : DE cX5_readItem 143 (.aload_n 0) 1 := dop_42 (dn_w dw40_8 15 rfl)
theorem dX5_readItem_144 : DE cX5_readItem 144 (.getfield 11) 3 := dop_180 (dn_w dw40_9 0 rfl) rfl
theorem dX5_readItem_147 : DE cX5_readItem 147 (.aload_n 0) 1 := dop_42 (dn_w dw40_9 3 rfl)
theorem dX5_readItem_148 : DE cX5_readItem 148 (.getfield 26) 3 := dop_180 (dn_w dw40_9 4 rfl) rfl
theorem dX5_readItem_151 : DE cX5_readItem 151 (.baload) 1 := dop_51 (dn_w dw40_9 7 rfl)
theorem dX5_readItem_152 : DE cX5_readItem 152 (.bipush 59) 2 := dop_16 (dn_w dw40_9 8 rfl) rfl
theorem dX5_readItem_154 : DE cX5_readItem 154 (.if_icmp .ne 16) 3 := dop_160 (dn_w dw40_9 10 rfl) rfl
theorem dX5_readItem_157 : DE cX5_readItem 157 (.aload_n 0) 1 := dop_42 (dn_w dw40_9 13 rfl)
theorem dX5_readItem_158 : DE cX5_readItem 158 (.dup) 1 := dop_89 (dn_w dw40_9 14 rfl)
theorem dX5_readItem_159 : DE cX5_readItem 159 (.getfield 26) 3 := dop_180 (dn_w dw40_9 15 rfl) rfl
theorem dX5_readItem_162 : DE cX5_readItem 162 (.iconst 1) 1 := dop_4 (dn_w dw40_10 2 rfl)
theorem dX5_readItem_163 : DE cX5_readItem 163 (.iadd) 1 := dop_96 (dn_w dw40_10 3 rfl)
theorem dX5_readItem_164 : DE cX5_readItem 164 (.putfield 26) 3 := dop_181 (dn_w dw40_10 4 rfl) rfl
theorem dX5_readItem_167 : DE cX5_readItem 167 (.goto 11) 3 := dop_167 (dn_w dw40_10 7 rfl) rfl
theorem dX5_readItem_170 : DE cX5_readItem 170 (.aload_n 0) 1 := dop_42 (dn_w dw40_10 10 rfl)
theorem dX5_readItem_171 : DE cX5_readItem 171 (.aload_n 0) 1 := dop_42 (dn_w dw40_10 11 rfl)
theorem dX5_readItem_172 : DE cX5_readItem 172 (.getfield 26) 3 := dop_180 (dn_w dw40_10 12 rfl) rfl
theorem dX5_readItem_175 : DE cX5_readItem 175 (.invokevirtual 76) 3 := dop_182 (dn_w dw40_10 15 rfl) rfl
theorem dX5_readItem_178 : DE cX5_readItem 178 (.return_) 1 := dop_177 (dn_w dw40_11 2 rfl)
noncomputable def dt41_2 : List Nat := 79 :: 177 :: []
noncomputable def dt41_1 : List Nat := 42 :: 180 :: 0 :: 32 :: 156 :: 0 :: 13 :: 42 :: 180 :: 0 :: 22 :: 180 :: 0 :: 79 :: 27 :: 28 :: dt41_2
noncomputable def dt41_0 : List Nat := 42 :: 3 :: 16 :: 39 :: 182 :: 0 :: 55 :: 60 :: 42 :: 3 :: 16 :: 31 :: 182 :: 0 :: 55 :: 61 :: dt41_1
theorem dw41_0 : dn cX5_readDay 0 = dt41_0 := by decide +kernel
theorem dw41_1 : dn cX5_readDay 16 = dt41_1 := dn_w dw41_0 16 rfl
theorem dw41_2 : dn cX5_readDay 32 = dt41_2 := dn_w dw41_1 16 rfl
theorem dX5_readDay_0 : DE cX5_readDay 0 (.aload_n 0) 1 := dop_42 (dn_w dw41_0 0 rfl)
theorem dX5_readDay_1 : DE cX5_readDay 1 (.iconst 0) 1 := dop_3 (dn_w dw41_0 1 rfl)
theorem dX5_readDay_2 : DE cX5_readDay 2 (.bipush 39) 2 := dop_16 (dn_w dw41_0 2 rfl) rfl
theorem dX5_readDay_4 : DE cX5_readDay 4 (.invokevirtual 55) 3 := dop_182 (dn_w dw41_0 4 rfl) rfl
theorem dX5_readDay_7 : DE cX5_readDay 7 (.istore_n 1) 1 := dop_60 (dn_w dw41_0 7 rfl)
theorem dX5_readDay_8 : DE cX5_readDay 8 (.aload_n 0) 1 := dop_42 (dn_w dw41_0 8 rfl)
theorem dX5_readDay_9 : DE cX5_readDay 9 (.iconst 0) 1 := dop_3 (dn_w dw41_0 9 rfl)
theorem dX5_readDay_10 : DE cX5_readDay 10 (.bipush 31) 2 := dop_16 (dn_w dw41_0 10 rfl) rfl
theorem dX5_readDay_12 : DE cX5_readDay 12 (.invokevirtual 55) 3 := dop_182 (dn_w dw41_0 12 rfl) rfl
theorem dX5_readDay_15 : DE cX5_readDay 15 (.istore_n 2) 1 := dop_61 (dn_w dw41_0 15 rfl)
theorem dX5_readDay_16 : DE cX5_readDay 16 (.aload_n 0) 1 := dop_42 (dn_w dw41_1 0 rfl)
theorem dX5_readDay_17 : DE cX5_readDay 17 (.getfield 32) 3 := dop_180 (dn_w dw41_1 1 rfl) rfl
theorem dX5_readDay_20 : DE cX5_readDay 20 (.ifCond .ge 13) 3 := dop_156 (dn_w dw41_1 4 rfl) rfl
theorem dX5_readDay_23 : DE cX5_readDay 23 (.aload_n 0) 1 := dop_42 (dn_w dw41_1 7 rfl)
theorem dX5_readDay_24 : DE cX5_readDay 24 (.getfield 22) 3 := dop_180 (dn_w dw41_1 8 rfl) rfl
theorem dX5_readDay_27 : DE cX5_readDay 27 (.getfield 79) 3 := dop_180 (dn_w dw41_1 11 rfl) rfl
theorem dX5_readDay_30 : DE cX5_readDay 30 (.iload_n 1) 1 := dop_27 (dn_w dw41_1 14 rfl)
theorem dX5_readDay_31 : DE cX5_readDay 31 (.iload_n 2) 1 := dop_28 (dn_w dw41_1 15 rfl)
theorem dX5_readDay_32 : DE cX5_readDay 32 (.iastore) 1 := dop_79 (dn_w dw41_2 0 rfl)
theorem dX5_readDay_33 : DE cX5_readDay 33 (.return_) 1 := dop_177 (dn_w dw41_2 1 rfl)
noncomputable def dt42_2 : List Nat := 0 :: 22 :: 180 :: 0 :: 85 :: 27 :: 28 :: 79 :: 177 :: []
noncomputable def dt42_1 : List Nat := 3 :: 16 :: 20 :: 182 :: 0 :: 55 :: 61 :: 42 :: 180 :: 0 :: 32 :: 156 :: 0 :: 13 :: 42 :: 180 :: dt42_2
noncomputable def dt42_0 : List Nat := 42 :: 3 :: 42 :: 180 :: 0 :: 22 :: 180 :: 0 :: 82 :: 4 :: 100 :: 182 :: 0 :: 55 :: 60 :: 42 :: dt42_1
theorem dw42_0 : dn cX5_readSick 0 = dt42_0 := by decide +kernel
theorem dw42_1 : dn cX5_readSick 16 = dt42_1 := dn_w dw42_0 16 rfl
theorem dw42_2 : dn cX5_readSick 32 = dt42_2 := dn_w dw42_1 16 rfl
theorem dX5_readSick_0 : DE cX5_readSick 0 (.aload_n 0) 1 := dop_42 (dn_w dw42_0 0 rfl)
theorem dX5_readSick_1 : DE cX5_readSick 1 (.iconst 0) 1 := dop_3 (dn_w dw42_0 1 rfl)
theorem dX5_readSick_2 : DE cX5_readSick 2 (.aload_n 0) 1 := dop_42 (dn_w dw42_0 2 rfl)
theorem dX5_readSick_3 : DE cX5_readSick 3 (.getfield 22) 3 := dop_180 (dn_w dw42_0 3 rfl) rfl
theorem dX5_readSick_6 : DE cX5_readSick 6 (.getfield 82) 3 := dop_180 (dn_w dw42_0 6 rfl) rfl
theorem dX5_readSick_9 : DE cX5_readSick 9 (.iconst 1) 1 := dop_4 (dn_w dw42_0 9 rfl)
theorem dX5_readSick_10 : DE cX5_readSick 10 (.isub) 1 := dop_100 (dn_w dw42_0 10 rfl)
theorem dX5_readSick_11 : DE cX5_readSick 11 (.invokevirtual 55) 3 := dop_182 (dn_w dw42_0 11 rfl) rfl
theorem dX5_readSick_14 : DE cX5_readSick 14 (.istore_n 1) 1 := dop_60 (dn_w dw42_0 14 rfl)
theorem dX5_readSick_15 : DE cX5_readSick 15 (.aload_n 0) 1 := dop_42 (dn_w dw42_0 15 rfl)
theorem dX5_readSick_16 : DE cX5_readSick 16 (.iconst 0) 1 := dop_3 (dn_w dw42_1 0 rfl)
theorem dX5_readSick_17 : DE cX5_readSick 17 (.bipush 20) 2 := dop_16 (dn_w dw42_1 1 rfl) rfl
theorem dX5_readSick_19 : DE cX5_readSick 19 (.invokevirtual 55) 3 := dop_182 (dn_w dw42_1 3 rfl) rfl
theorem dX5_readSick_22 : DE cX5_readSick 22 (.istore_n 2) 1 := dop_61 (dn_w dw42_1 6 rfl)
theorem dX5_readSick_23 : DE cX5_readSick 23 (.aload_n 0) 1 := dop_42 (dn_w dw42_1 7 rfl)
theorem dX5_readSick_24 : DE cX5_readSick 24 (.getfield 32) 3 := dop_180 (dn_w dw42_1 8 rfl) rfl
theorem dX5_readSick_27 : DE cX5_readSick 27 (.ifCond .ge 13) 3 := dop_156 (dn_w dw42_1 11 rfl) rfl
theorem dX5_readSick_30 : DE cX5_readSick 30 (.aload_n 0) 1 := dop_42 (dn_w dw42_1 14 rfl)
theorem dX5_readSick_31 : DE cX5_readSick 31 (.getfield 22) 3 := dop_180 (dn_w dw42_1 15 rfl) rfl
theorem dX5_readSick_34 : DE cX5_readSick 34 (.getfield 85) 3 := dop_180 (dn_w dw42_2 2 rfl) rfl
theorem dX5_readSick_37 : DE cX5_readSick 37 (.iload_n 1) 1 := dop_27 (dn_w dw42_2 5 rfl)
theorem dX5_readSick_38 : DE cX5_readSick 38 (.iload_n 2) 1 := dop_28 (dn_w dw42_2 6 rfl)
theorem dX5_readSick_39 : DE cX5_readSick 39 (.iastore) 1 := dop_79 (dn_w dw42_2 7 rfl)
theorem dX5_readSick_40 : DE cX5_readSick 40 (.return_) 1 := dop_177 (dn_w dw42_2 8 rfl)
noncomputable def dt43_8 : List Nat := 0 :: 22 :: 27 :: 28 :: 29 :: 21 :: 4 :: 182 :: 0 :: 96 :: 87 :: 177 :: []
noncomputable def dt43_7 : List Nat := 16 :: 9 :: 182 :: 0 :: 55 :: 54 :: 4 :: 42 :: 180 :: 0 :: 32 :: 156 :: 0 :: 16 :: 42 :: 180 :: dt43_8
noncomputable def dt43_6 : List Nat := 45 :: 16 :: 7 :: 159 :: 0 :: 11 :: 42 :: 42 :: 180 :: 0 :: 29 :: 182 :: 0 :: 76 :: 42 :: 3 :: dt43_7
noncomputable def dt43_5 : List Nat := 0 :: 11 :: 42 :: 180 :: 0 :: 26 :: 51 :: 184 :: 0 :: 92 :: 153 :: 0 :: 29 :: 42 :: 182 :: 0 :: dt43_6
noncomputable def dt43_4 : List Nat := 3 :: 54 :: 4 :: 42 :: 180 :: 0 :: 26 :: 42 :: 180 :: 0 :: 15 :: 162 :: 0 :: 44 :: 42 :: 180 :: dt43_5
noncomputable def dt43_3 : List Nat := 0 :: 29 :: 182 :: 0 :: 76 :: 42 :: 3 :: 8 :: 182 :: 0 :: 55 :: 62 :: 42 :: 182 :: 0 :: 39 :: dt43_4
noncomputable def dt43_2 : List Nat := 182 :: 0 :: 55 :: 61 :: 42 :: 182 :: 0 :: 45 :: 16 :: 6 :: 159 :: 0 :: 11 :: 42 :: 42 :: 180 :: dt43_3
noncomputable def dt43_1 : List Nat := 161 :: 0 :: 12 :: 42 :: 42 :: 180 :: 0 :: 29 :: 182 :: 0 :: 76 :: 177 :: 42 :: 3 :: 16 :: 9 :: dt43_2
noncomputable def dt43_0 : List Nat := 27 :: 184 :: 0 :: 88 :: 153 :: 0 :: 15 :: 42 :: 180 :: 0 :: 22 :: 180 :: 0 :: 82 :: 16 :: 8 :: dt43_1
theorem dw43_0 : dn cX5_readChild 0 = dt43_0 := by decide +kernel
theorem dw43_1 : dn cX5_readChild 16 = dt43_1 := dn_w dw43_0 16 rfl
theorem dw43_2 : dn cX5_readChild 32 = dt43_2 := dn_w dw43_1 16 rfl
theorem dw43_3 : dn cX5_readChild 48 = dt43_3 := dn_w dw43_2 16 rfl
theorem dw43_4 : dn cX5_readChild 64 = dt43_4 := dn_w dw43_3 16 rfl
theorem dw43_5 : dn cX5_readChild 80 = dt43_5 := dn_w dw43_4 16 rfl
theorem dw43_6 : dn cX5_readChild 96 = dt43_6 := dn_w dw43_5 16 rfl
theorem dw43_7 : dn cX5_readChild 112 = dt43_7 := dn_w dw43_6 16 rfl
theorem dw43_8 : dn cX5_readChild 128 = dt43_8 := dn_w dw43_7 16 rfl
theorem dX5_readChild_0 : DE cX5_readChild 0 (.iload_n 1) 1 := dop_27 (dn_w dw43_0 0 rfl)
theorem dX5_readChild_1 : DE cX5_readChild 1 (.invokestatic 88) 3 := dop_184 (dn_w dw43_0 1 rfl) rfl
theorem dX5_readChild_4 : DE cX5_readChild 4 (.ifCond .eq 15) 3 := dop_153 (dn_w dw43_0 4 rfl) rfl
theorem dX5_readChild_7 : DE cX5_readChild 7 (.aload_n 0) 1 := dop_42 (dn_w dw43_0 7 rfl)
theorem dX5_readChild_8 : DE cX5_readChild 8 (.getfield 22) 3 := dop_180 (dn_w dw43_0 8 rfl) rfl
theorem dX5_readChild_11 : DE cX5_readChild 11 (.getfield 82) 3 := dop_180 (dn_w dw43_0 11 rfl) rfl
theorem dX5_readChild_14 : DE cX5_readChild 14 (.bipush 8) 2 := dop_16 (dn_w dw43_0 14 rfl) rfl
theorem dX5_readChild_16 : DE cX5_readChild 16 (.if_icmp .lt 12) 3 := dop_161 (dn_w dw43_1 0 rfl) rfl
theorem dX5_readChild_19 : DE cX5_readChild 19 (.aload_n 0) 1 := dop_42 (dn_w dw43_1 3 rfl)
theorem dX5_readChild_20 : DE cX5_readChild 20 (.aload_n 0) 1 := dop_42 (dn_w dw43_1 4 rfl)
theorem dX5_readChild_21 : DE cX5_readChild 21 (.getfield 29) 3 := dop_180 (dn_w dw43_1 5 rfl) rfl
theorem dX5_readChild_24 : DE cX5_readChild 24 (.invokevirtual 76) 3 := dop_182 (dn_w dw43_1 8 rfl) rfl
theorem dX5_readChild_27 : DE cX5_readChild 27 (.return_) 1 := dop_177 (dn_w dw43_1 11 rfl)
theorem dX5_readChild_28 : DE cX5_readChild 28 (.aload_n 0) 1 := dop_42 (dn_w dw43_1 12 rfl)
theorem dX5_readChild_29 : DE cX5_readChild 29 (.iconst 0) 1 := dop_3 (dn_w dw43_1 13 rfl)
theorem dX5_readChild_30 : DE cX5_readChild 30 (.bipush 9) 2 := dop_16 (dn_w dw43_1 14 rfl) rfl
theorem dX5_readChild_32 : DE cX5_readChild 32 (.invokevirtual 55) 3 := dop_182 (dn_w dw43_2 0 rfl) rfl
theorem dX5_readChild_35 : DE cX5_readChild 35 (.istore_n 2) 1 := dop_61 (dn_w dw43_2 3 rfl)
theorem dX5_readChild_36 : DE cX5_readChild 36 (.aload_n 0) 1 := dop_42 (dn_w dw43_2 4 rfl)
theorem dX5_readChild_37 : DE cX5_readChild 37 (.invokevirtual 45) 3 := dop_182 (dn_w dw43_2 5 rfl) rfl
theorem dX5_readChild_40 : DE cX5_readChild 40 (.bipush 6) 2 := dop_16 (dn_w dw43_2 8 rfl) rfl
theorem dX5_readChild_42 : DE cX5_readChild 42 (.if_icmp .eq 11) 3 := dop_159 (dn_w dw43_2 10 rfl) rfl
theorem dX5_readChild_45 : DE cX5_readChild 45 (.aload_n 0) 1 := dop_42 (dn_w dw43_2 13 rfl)
theorem dX5_readChild_46 : DE cX5_readChild 46 (.aload_n 0) 1 := dop_42 (dn_w dw43_2 14 rfl)
theorem dX5_readChild_47 : DE cX5_readChild 47 (.getfield 29) 3 := dop_180 (dn_w dw43_2 15 rfl) rfl
theorem dX5_readChild_50 : DE cX5_readChild 50 (.invokevirtual 76) 3 := dop_182 (dn_w dw43_3 2 rfl) rfl
theorem dX5_readChild_53 : DE cX5_readChild 53 (.aload_n 0) 1 := dop_42 (dn_w dw43_3 5 rfl)
theorem dX5_readChild_54 : DE cX5_readChild 54 (.iconst 0) 1 := dop_3 (dn_w dw43_3 6 rfl)
theorem dX5_readChild_55 : DE cX5_readChild 55 (.iconst 5) 1 := dop_8 (dn_w dw43_3 7 rfl)
theorem dX5_readChild_56 : DE cX5_readChild 56 (.invokevirtual 55) 3 := dop_182 (dn_w dw43_3 8 rfl) rfl
theorem dX5_readChild_59 : DE cX5_readChild 59 (.istore_n 3) 1 := dop_62 (dn_w dw43_3 11 rfl)
theorem dX5_readChild_60 : DE cX5_readChild 60 (.aload_n 0) 1 := dop_42 (dn_w dw43_3 12 rfl)
theorem dX5_readChild_61 : DE cX5_readChild 61 (.invokevirtual 39) 3 := dop_182 (dn_w dw43_3 13 rfl) rfl
theorem dX5_readChild_64 : DE cX5_readChild 64 (.iconst 0) 1 := dop_3 (dn_w dw43_4 0 rfl)
theorem dX5_readChild_65 : DE cX5_readChild 65 (.istore 4) 2 := dop_54 (dn_w dw43_4 1 rfl)
theorem dX5_readChild_67 : DE cX5_readChild 67 (.aload_n 0) 1 := dop_42 (dn_w dw43_4 3 rfl)
theorem dX5_readChild_68 : DE cX5_readChild 68 (.getfield 26) 3 := dop_180 (dn_w dw43_4 4 rfl) rfl
theorem dX5_readChild_71 : DE cX5_readChild 71 (.aload_n 0) 1 := dop_42 (dn_w dw43_4 7 rfl)
theorem dX5_readChild_72 : DE cX5_readChild 72 (.getfield 15) 3 := dop_180 (dn_w dw43_4 8 rfl) rfl
theorem dX5_readChild_75 : DE cX5_readChild 75 (.if_icmp .ge 44) 3 := dop_162 (dn_w dw43_4 11 rfl) rfl
theorem dX5_readChild_78 : DE cX5_readChild 78 (.aload_n 0) 1 := dop_42 (dn_w dw43_4 14 rfl)
theorem dX5_readChild_79 : DE cX5_readChild 79 (.getfield 11) 3 := dop_180 (dn_w dw43_4 15 rfl) rfl
theorem dX5_readChild_82 : DE cX5_readChild 82 (.aload_n 0) 1 := dop_42 (dn_w dw43_5 2 rfl)
theorem dX5_readChild_83 : DE cX5_readChild 83 (.getfield 26) 3 := dop_180 (dn_w dw43_5 3 rfl) rfl
theorem dX5_readChild_86 : DE cX5_readChild 86 (.baload) 1 := dop_51 (dn_w dw43_5 6 rfl)
theorem dX5_readChild_87 : DE cX5_readChild 87 (.invokestatic 92) 3 := dop_184 (dn_w dw43_5 7 rfl) rfl
theorem dX5_readChild_90 : DE cX5_readChild 90 (.ifCond .eq 29) 3 := dop_153 (dn_w dw43_5 10 rfl) rfl
theorem dX5_readChild_93 : DE cX5_readChild 93 (.aload_n 0) 1 := dop_42 (dn_w dw43_5 13 rfl)
theorem dX5_readChild_94 : DE cX5_readChild 94 (.invokevirtual 45) 3 := dop_182 (dn_w dw43_5 14 rfl) rfl
theorem dX5_readChild_97 : DE cX5_readChild 97 (.bipush 7) 2 := dop_16 (dn_w dw43_6 1 rfl) rfl
theorem dX5_readChild_99 : DE cX5_readChild 99 (.if_icmp .eq 11) 3 := dop_159 (dn_w dw43_6 3 rfl) rfl
theorem dX5_readChild_102 : DE cX5_readChild 102 (.aload_n 0) 1 := dop_42 (dn_w dw43_6 6 rfl)
theorem dX5_readChild_103 : DE cX5_readChild 103 (.aload_n 0) 1 := dop_42 (dn_w dw43_6 7 rfl)
theorem dX5_readChild_104 : DE cX5_readChild 104 (.getfield 29) 3 := dop_180 (dn_w dw43_6 8 rfl) rfl
theorem dX5_readChild_107 : DE cX5_readChild 107 (.invokevirtual 76) 3 := dop_182 (dn_w dw43_6 11 rfl) rfl
theorem dX5_readChild_110 : DE cX5_readChild 110 (.aload_n 0) 1 := dop_42 (dn_w dw43_6 14 rfl)
theorem dX5_readChild_111 : DE cX5_readChild 111 (.iconst 0) 1 := dop_3 (dn_w dw43_6 15 rfl)
theorem dX5_readChild_112 : DE cX5_readChild 112 (.bipush 9) 2 := dop_16 (dn_w dw43_7 0 rfl) rfl
theorem dX5_readChild_114 : DE cX5_readChild 114 (.invokevirtual 55) 3 := dop_182 (dn_w dw43_7 2 rfl) rfl
theorem dX5_readChild_117 : DE cX5_readChild 117 (.istore 4) 2 := dop_54 (dn_w dw43_7 5 rfl)
theorem dX5_readChild_119 : DE cX5_readChild 119 (.aload_n 0) 1 := dop_42 (dn_w dw43_7 7 rfl)
theorem dX5_readChild_120 : DE cX5_readChild 120 (.getfield 32) 3 := dop_180 (dn_w dw43_7 8 rfl) rfl
theorem dX5_readChild_123 : DE cX5_readChild 123 (.ifCond .ge 16) 3 := dop_156 (dn_w dw43_7 11 rfl) rfl
theorem dX5_readChild_126 : DE cX5_readChild 126 (.aload_n 0) 1 := dop_42 (dn_w dw43_7 14 rfl)
theorem dX5_readChild_127 : DE cX5_readChild 127 (.getfield 22) 3 := dop_180 (dn_w dw43_7 15 rfl) rfl
theorem dX5_readChild_130 : DE cX5_readChild 130 (.iload_n 1) 1 := dop_27 (dn_w dw43_8 2 rfl)
theorem dX5_readChild_131 : DE cX5_readChild 131 (.iload_n 2) 1 := dop_28 (dn_w dw43_8 3 rfl)
theorem dX5_readChild_132 : DE cX5_readChild 132 (.iload_n 3) 1 := dop_29 (dn_w dw43_8 4 rfl)
theorem dX5_readChild_133 : DE cX5_readChild 133 (.iload 4) 2 := dop_21 (dn_w dw43_8 5 rfl)
theorem dX5_readChild_135 : DE cX5_readChild 135 (.invokevirtual 96) 3 := dop_182 (dn_w dw43_8 7 rfl) rfl
theorem dX5_readChild_138 : DE cX5_readChild 138 (.pop) 1 := dop_87 (dn_w dw43_8 10 rfl)
theorem dX5_readChild_139 : DE cX5_readChild 139 (.return_) 1 := dop_177 (dn_w dw43_8 11 rfl)
noncomputable def dt44_0 : List Nat := 42 :: 180 :: 0 :: 32 :: 156 :: 0 :: 8 :: 42 :: 27 :: 181 :: 0 :: 32 :: 177 :: []
theorem dw44_0 : dn cX5_failAt 0 = dt44_0 := by decide +kernel
theorem dX5_failAt_0 : DE cX5_failAt 0 (.aload_n 0) 1 := dop_42 (dn_w dw44_0 0 rfl)
theorem dX5_failAt_1 : DE cX5_failAt 1 (.getfield 32) 3 := dop_180 (dn_w dw44_0 1 rfl) rfl
theorem dX5_failAt_4 : DE cX5_failAt 4 (.ifCond .ge 8) 3 := dop_156 (dn_w dw44_0 4 rfl) rfl
theorem dX5_failAt_7 : DE cX5_failAt 7 (.aload_n 0) 1 := dop_42 (dn_w dw44_0 7 rfl)
theorem dX5_failAt_8 : DE cX5_failAt 8 (.iload_n 1) 1 := dop_27 (dn_w dw44_0 8 rfl)
theorem dX5_failAt_9 : DE cX5_failAt 9 (.putfield 32) 3 := dop_181 (dn_w dw44_0 9 rfl) rfl
theorem dX5_failAt_12 : DE cX5_failAt 12 (.return_) 1 := dop_177 (dn_w dw44_0 12 rfl)
noncomputable def dt45_2 : List Nat := 181 :: 0 :: 26 :: 167 :: 255 :: 221 :: 177 :: []
noncomputable def dt45_1 : List Nat := 180 :: 0 :: 26 :: 51 :: 16 :: 32 :: 160 :: 0 :: 16 :: 42 :: 89 :: 180 :: 0 :: 26 :: 4 :: 96 :: dt45_2
noncomputable def dt45_0 : List Nat := 42 :: 180 :: 0 :: 26 :: 42 :: 180 :: 0 :: 15 :: 162 :: 0 :: 30 :: 42 :: 180 :: 0 :: 11 :: 42 :: dt45_1
theorem dw45_0 : dn cX5_skipBlanks 0 = dt45_0 := by decide +kernel
theorem dw45_1 : dn cX5_skipBlanks 16 = dt45_1 := dn_w dw45_0 16 rfl
theorem dw45_2 : dn cX5_skipBlanks 32 = dt45_2 := dn_w dw45_1 16 rfl
theorem dX5_skipBlanks_0 : DE cX5_skipBlanks 0 (.aload_n 0) 1 := dop_42 (dn_w dw45_0 0 rfl)
theorem dX5_skipBlanks_1 : DE cX5_skipBlanks 1 (.getfield 26) 3 := dop_180 (dn_w dw45_0 1 rfl) rfl
theorem dX5_skipBlanks_4 : DE cX5_skipBlanks 4 (.aload_n 0) 1 := dop_42 (dn_w dw45_0 4 rfl)
theorem dX5_skipBlanks_5 : DE cX5_skipBlanks 5 (.getfield 15) 3 := dop_180 (dn_w dw45_0 5 rfl) rfl
theorem dX5_skipBlanks_8 : DE cX5_skipBlanks 8 (.if_icmp .ge 30) 3 := dop_162 (dn_w dw45_0 8 rfl) rfl
theorem dX5_skipBlanks_11 : DE cX5_skipBlanks 11 (.aload_n 0) 1 := dop_42 (dn_w dw45_0 11 rfl)
theorem dX5_skipBlanks_12 : DE cX5_skipBlanks 12 (.getfield 11) 3 := dop_180 (dn_w dw45_0 12 rfl) rfl
theorem dX5_skipBlanks_15 : DE cX5_skipBlanks 15 (.aload_n 0) 1 := dop_42 (dn_w dw45_0 15 rfl)
theorem dX5_skipBlanks_16 : DE cX5_skipBlanks 16 (.getfield 26) 3 := dop_180 (dn_w dw45_1 0 rfl) rfl
theorem dX5_skipBlanks_19 : DE cX5_skipBlanks 19 (.baload) 1 := dop_51 (dn_w dw45_1 3 rfl)
theorem dX5_skipBlanks_20 : DE cX5_skipBlanks 20 (.bipush 32) 2 := dop_16 (dn_w dw45_1 4 rfl) rfl
theorem dX5_skipBlanks_22 : DE cX5_skipBlanks 22 (.if_icmp .ne 16) 3 := dop_160 (dn_w dw45_1 6 rfl) rfl
theorem dX5_skipBlanks_25 : DE cX5_skipBlanks 25 (.aload_n 0) 1 := dop_42 (dn_w dw45_1 9 rfl)
theorem dX5_skipBlanks_26 : DE cX5_skipBlanks 26 (.dup) 1 := dop_89 (dn_w dw45_1 10 rfl)
theorem dX5_skipBlanks_27 : DE cX5_skipBlanks 27 (.getfield 26) 3 := dop_180 (dn_w dw45_1 11 rfl) rfl
theorem dX5_skipBlanks_30 : DE cX5_skipBlanks 30 (.iconst 1) 1 := dop_4 (dn_w dw45_1 14 rfl)
theorem dX5_skipBlanks_31 : DE cX5_skipBlanks 31 (.iadd) 1 := dop_96 (dn_w dw45_1 15 rfl)
theorem dX5_skipBlanks_32 : DE cX5_skipBlanks 32 (.putfield 26) 3 := dop_181 (dn_w dw45_2 0 rfl) rfl
theorem dX5_skipBlanks_35 : DE cX5_skipBlanks 35 (.goto (-35)) 3 := dop_167 (dn_w dw45_2 3 rfl) rfl
theorem dX5_skipBlanks_38 : DE cX5_skipBlanks 38 (.return_) 1 := dop_177 (dn_w dw45_2 6 rfl)
noncomputable def dt46_8 : List Nat := 0 :: 32 :: 156 :: 0 :: 7 :: 29 :: 167 :: 0 :: 4 :: 3 :: 172 :: []
noncomputable def dt46_7 : List Nat := 8 :: 29 :: 28 :: 164 :: 0 :: 11 :: 42 :: 42 :: 180 :: 0 :: 29 :: 182 :: 0 :: 76 :: 42 :: 180 :: dt46_8
noncomputable def dt46_6 : List Nat := 180 :: 0 :: 26 :: 42 :: 180 :: 0 :: 29 :: 5 :: 96 :: 163 :: 0 :: 13 :: 29 :: 27 :: 161 :: 0 :: dt46_7
noncomputable def dt46_5 : List Nat := 26 :: 167 :: 255 :: 189 :: 42 :: 180 :: 0 :: 26 :: 42 :: 180 :: 0 :: 29 :: 159 :: 0 :: 26 :: 42 :: dt46_6
noncomputable def dt46_4 : List Nat := 26 :: 51 :: 16 :: 48 :: 100 :: 96 :: 62 :: 42 :: 89 :: 180 :: 0 :: 26 :: 4 :: 96 :: 181 :: 0 :: dt46_5
noncomputable def dt46_3 : List Nat := 16 :: 57 :: 163 :: 0 :: 34 :: 29 :: 16 :: 10 :: 104 :: 42 :: 180 :: 0 :: 11 :: 42 :: 180 :: 0 :: dt46_4
noncomputable def dt46_2 : List Nat := 26 :: 51 :: 16 :: 48 :: 161 :: 0 :: 48 :: 42 :: 180 :: 0 :: 11 :: 42 :: 180 :: 0 :: 26 :: 51 :: dt46_3
noncomputable def dt46_1 : List Nat := 0 :: 26 :: 42 :: 180 :: 0 :: 15 :: 162 :: 0 :: 62 :: 42 :: 180 :: 0 :: 11 :: 42 :: 180 :: 0 :: dt46_2
noncomputable def dt46_0 : List Nat := 42 :: 182 :: 0 :: 39 :: 42 :: 42 :: 180 :: 0 :: 26 :: 181 :: 0 :: 29 :: 3 :: 62 :: 42 :: 180 :: dt46_1
theorem dw46_0 : dn cX5_nextNumber 0 = dt46_0 := by decide +kernel
theorem dw46_1 : dn cX5_nextNumber 16 = dt46_1 := dn_w dw46_0 16 rfl
theorem dw46_2 : dn cX5_nextNumber 32 = dt46_2 := dn_w dw46_1 16 rfl
theorem dw46_3 : dn cX5_nextNumber 48 = dt46_3 := dn_w dw46_2 16 rfl
theorem dw46_4 : dn cX5_nextNumber 64 = dt46_4 := dn_w dw46_3 16 rfl
theorem dw46_5 : dn cX5_nextNumber 80 = dt46_5 := dn_w dw46_4 16 rfl
theorem dw46_6 : dn cX5_nextNumber 96 = dt46_6 := dn_w dw46_5 16 rfl
theorem dw46_7 : dn cX5_nextNumber 112 = dt46_7 := dn_w dw46_6 16 rfl
theorem dw46_8 : dn cX5_nextNumber 128 = dt46_8 := dn_w dw46_7 16 rfl
theorem dX5_nextNumber_0 : DE cX5_nextNumber 0 (.aload_n 0) 1 := dop_42 (dn_w dw46_0 0 rfl)
theorem dX5_nextNumber_1 : DE cX5_nextNumber 1 (.invokevirtual 39) 3 := dop_182 (dn_w dw46_0 1 rfl) rfl
theorem dX5_nextNumber_4 : DE cX5_nextNumber 4 (.aload_n 0) 1 := dop_42 (dn_w dw46_0 4 rfl)
theorem dX5_nextNumber_5 : DE cX5_nextNumber 5 (.aload_n 0) 1 := dop_42 (dn_w dw46_0 5 rfl)
theorem dX5_nextNumber_6 : DE cX5_nextNumber 6 (.getfield 26) 3 := dop_180 (dn_w dw46_0 6 rfl) rfl
theorem dX5_nextNumber_9 : DE cX5_nextNumber 9 (.putfield 29) 3 := dop_181 (dn_w dw46_0 9 rfl) rfl
theorem dX5_nextNumber_12 : DE cX5_nextNumber 12 (.iconst 0) 1 := dop_3 (dn_w dw46_0 12 rfl)
theorem dX5_nextNumber_13 : DE cX5_nextNumber 13 (.istore_n 3) 1 := dop_62 (dn_w dw46_0 13 rfl)
theorem dX5_nextNumber_14 : DE cX5_nextNumber 14 (.aload_n 0) 1 := dop_42 (dn_w dw46_0 14 rfl)
theorem dX5_nextNumber_15 : DE cX5_nextNumber 15 (.getfield 26) 3 := dop_180 (dn_w dw46_0 15 rfl) rfl
theorem dX5_nextNumber_18 : DE cX5_nextNumber 18 (.aload_n 0) 1 := dop_42 (dn_w dw46_1 2 rfl)
theorem dX5_nextNumber_19 : DE cX5_nextNumber 19 (.getfield 15) 3 := dop_180 (dn_w dw46_1 3 rfl) rfl
theorem dX5_nextNumber_22 : DE cX5_nextNumber 22 (.if_icmp .ge 62) 3 := dop_162 (dn_w dw46_1 6 rfl) rfl
theorem dX5_nextNumber_25 : DE cX5_nextNumber 25 (.aload_n 0) 1 := dop_42 (dn_w dw46_1 9 rfl)
theorem dX5_nextNumber_26 : DE cX5_nextNumber 26 (.getfield 11) 3 := dop_180 (dn_w dw46_1 10 rfl) rfl
theorem dX5_nextNumber_29 : DE cX5_nextNumber 29 (.aload_n 0) 1 := dop_42 (dn_w dw46_1 13 rfl)
theorem dX5_nextNumber_30 : DE cX5_nextNumber 30 (.getfield 26) 3 := dop_180 (dn_w dw46_1 14 rfl) rfl
theorem dX5_nextNumber_33 : DE cX5_nextNumber 33 (.baload) 1 := dop_51 (dn_w dw46_2 1 rfl)
theorem dX5_nextNumber_34 : DE cX5_nextNumber 34 (.bipush 48) 2 := dop_16 (dn_w dw46_2 2 rfl) rfl
theorem dX5_nextNumber_36 : DE cX5_nextNumber 36 (.if_icmp .lt 48) 3 := dop_161 (dn_w dw46_2 4 rfl) rfl
theorem dX5_nextNumber_39 : DE cX5_nextNumber 39 (.aload_n 0) 1 := dop_42 (dn_w dw46_2 7 rfl)
theorem dX5_nextNumber_40 : DE cX5_nextNumber 40 (.getfield 11) 3 := dop_180 (dn_w dw46_2 8 rfl) rfl
theorem dX5_nextNumber_43 : DE cX5_nextNumber 43 (.aload_n 0) 1 := dop_42 (dn_w dw46_2 11 rfl)
theorem dX5_nextNumber_44 : DE cX5_nextNumber 44 (.getfield 26) 3 := dop_180 (dn_w dw46_2 12 rfl) rfl
theorem dX5_nextNumber_47 : DE cX5_nextNumber 47 (.baload) 1 := dop_51 (dn_w dw46_2 15 rfl)
theorem dX5_nextNumber_48 : DE cX5_nextNumber 48 (.bipush 57) 2 := dop_16 (dn_w dw46_3 0 rfl) rfl
theorem dX5_nextNumber_50 : DE cX5_nextNumber 50 (.if_icmp .gt 34) 3 := dop_163 (dn_w dw46_3 2 rfl) rfl
theorem dX5_nextNumber_53 : DE cX5_nextNumber 53 (.iload_n 3) 1 := dop_29 (dn_w dw46_3 5 rfl)
theorem dX5_nextNumber_54 : DE cX5_nextNumber 54 (.bipush 10) 2 := dop_16 (dn_w dw46_3 6 rfl) rfl
theorem dX5_nextNumber_56 : DE cX5_nextNumber 56 (.imul) 1 := dop_104 (dn_w dw46_3 8 rfl)
theorem dX5_nextNumber_57 : DE cX5_nextNumber 57 (.aload_n 0) 1 := dop_42 (dn_w dw46_3 9 rfl)
theorem dX5_nextNumber_58 : DE cX5_nextNumber 58 (.getfield 11) 3 := dop_180 (dn_w dw46_3 10 rfl) rfl
theorem dX5_nextNumber_61 : DE cX5_nextNumber 61 (.aload_n 0) 1 := dop_42 (dn_w dw46_3 13 rfl)
theorem dX5_nextNumber_62 : DE cX5_nextNumber 62 (.getfield 26) 3 := dop_180 (dn_w dw46_3 14 rfl) rfl
theorem dX5_nextNumber_65 : DE cX5_nextNumber 65 (.baload) 1 := dop_51 (dn_w dw46_4 1 rfl)
theorem dX5_nextNumber_66 : DE cX5_nextNumber 66 (.bipush 48) 2 := dop_16 (dn_w dw46_4 2 rfl) rfl
theorem dX5_nextNumber_68 : DE cX5_nextNumber 68 (.isub) 1 := dop_100 (dn_w dw46_4 4 rfl)
theorem dX5_nextNumber_69 : DE cX5_nextNumber 69 (.iadd) 1 := dop_96 (dn_w dw46_4 5 rfl)
theorem dX5_nextNumber_70 : DE cX5_nextNumber 70 (.istore_n 3) 1 := dop_62 (dn_w dw46_4 6 rfl)
theorem dX5_nextNumber_71 : DE cX5_nextNumber 71 (.aload_n 0) 1 := dop_42 (dn_w dw46_4 7 rfl)
theorem dX5_nextNumber_72 : DE cX5_nextNumber 72 (.dup) 1 := dop_89 (dn_w dw46_4 8 rfl)
theorem dX5_nextNumber_73 : DE cX5_nextNumber 73 (.getfield 26) 3 := dop_180 (dn_w dw46_4 9 rfl) rfl
theorem dX5_nextNumber_76 : DE cX5_nextNumber 76 (.iconst 1) 1 := dop_4 (dn_w dw46_4 12 rfl)
theorem dX5_nextNumber_77 : DE cX5_nextNumber 77 (.iadd) 1 := dop_96 (dn_w dw46_4 13 rfl)
theorem dX5_nextNumber_78 : DE cX5_nextNumber 78 (.putfield 26) 3 := dop_181 (dn_w dw46_4 14 rfl) rfl
theorem dX5_nextNumber_81 : DE cX5_nextNumber 81 (.goto (-67)) 3 := dop_167 (dn_w dw46_5 1 rfl) rfl
theorem dX5_nextNumber_84 : DE cX5_nextNumber 84 (.aload_n 0) 1 := dop_42 (dn_w dw46_5 4 rfl)
theorem dX5_nextNumber_85 : DE cX5_nextNumber 85 (.getfield 26) 3 := dop_180 (dn_w dw46_5 5 rfl) rfl
theorem dX5_nextNumber_88 : DE cX5_nextNumber 88 (.aload_n 0) 1 := dop_42 (dn_w dw46_5 8 rfl)
theorem dX5_nextNumber_89 : DE cX5_nextNumber 89 (.getfield 29) 3 := dop_180 (dn_w dw46_5 9 rfl) rfl
theorem dX5_nextNumber_92 : DE cX5_nextNumber 92 (.if_icmp .eq 26) 3 := dop_159 (dn_w dw46_5 12 rfl) rfl
theorem dX5_nextNumber_95 : DE cX5_nextNumber 95 (.aload_n 0) 1 := dop_42 (dn_w dw46_5 15 rfl)
theorem dX5_nextNumber_96 : DE cX5_nextNumber 96 (.getfield 26) 3 := dop_180 (dn_w dw46_6 0 rfl) rfl
theorem dX5_nextNumber_99 : DE cX5_nextNumber 99 (.aload_n 0) 1 := dop_42 (dn_w dw46_6 3 rfl)
theorem dX5_nextNumber_100 : DE cX5_nextNumber 100 (.getfield 29) 3 := dop_180 (dn_w dw46_6 4 rfl) rfl
theorem dX5_nextNumber_103 : DE cX5_nextNumber 103 (.iconst 2) 1 := dop_5 (dn_w dw46_6 7 rfl)
theorem dX5_nextNumber_104 : DE cX5_nextNumber 104 (.iadd) 1 := dop_96 (dn_w dw46_6 8 rfl)
theorem dX5_nextNumber_105 : DE cX5_nextNumber 105 (.if_icmp .gt 13) 3 := dop_163 (dn_w dw46_6 9 rfl) rfl
theorem dX5_nextNumber_108 : DE cX5_nextNumber 108 (.iload_n 3) 1 := dop_29 (dn_w dw46_6 12 rfl)
theorem dX5_nextNumber_109 : DE cX5_nextNumber 109 (.iload_n 1) 1 := dop_27 (dn_w dw46_6 13 rfl)
theorem dX5_nextNumber_110 : DE cX5_nextNumber 110 (.if_icmp .lt 8) 3 := dop_161 (dn_w dw46_6 14 rfl) rfl
theorem dX5_nextNumber_113 : DE cX5_nextNumber 113 (.iload_n 3) 1 := dop_29 (dn_w dw46_7 1 rfl)
theorem dX5_nextNumber_114 : DE cX5_nextNumber 114 (.iload_n 2) 1 := dop_28 (dn_w dw46_7 2 rfl)
theorem dX5_nextNumber_115 : DE cX5_nextNumber 115 (.if_icmp .le 11) 3 := dop_164 (dn_w dw46_7 3 rfl) rfl
theorem dX5_nextNumber_118 : DE cX5_nextNumber 118 (.aload_n 0) 1 := dop_42 (dn_w dw46_7 6 rfl)
theorem dX5_nextNumber_119 : DE cX5_nextNumber 119 (.aload_n 0) 1 := dop_42 (dn_w dw46_7 7 rfl)
theorem dX5_nextNumber_120 : DE cX5_nextNumber 120 (.getfield 29) 3 := dop_180 (dn_w dw46_7 8 rfl) rfl
theorem dX5_nextNumber_123 : DE cX5_nextNumber 123 (.invokevirtual 76) 3 := dop_182 (dn_w dw46_7 11 rfl) rfl
theorem dX5_nextNumber_126 : DE cX5_nextNumber 126 (.aload_n 0) 1 := dop_42 (dn_w dw46_7 14 rfl)
theorem dX5_nextNumber_127 : DE cX5_nextNumber 127 (.getfield 32) 3 := dop_180 (dn_w dw46_7 15 rfl) rfl
theorem dX5_nextNumber_130 : DE cX5_nextNumber 130 (.ifCond .ge 7) 3 := dop_156 (dn_w dw46_8 2 rfl) rfl
theorem dX5_nextNumber_133 : DE cX5_nextNumber 133 (.iload_n 3) 1 := dop_29 (dn_w dw46_8 5 rfl)
theorem dX5_nextNumber_134 : DE cX5_nextNumber 134 (.goto 4) 3 := dop_167 (dn_w dw46_8 6 rfl) rfl
theorem dX5_nextNumber_137 : DE cX5_nextNumber 137 (.iconst 0) 1 := dop_3 (dn_w dw46_8 9 rfl)
theorem dX5_nextNumber_138 : DE cX5_nextNumber 138 (.ireturn) 1 := dop_172 (dn_w dw46_8 10 rfl)
noncomputable def dt47_4 : List Nat := 182 :: 0 :: 104 :: 153 :: 0 :: 5 :: 27 :: 172 :: 132 :: 1 :: 1 :: 167 :: 255 :: 234 :: 2 :: 172 :: []
noncomputable def dt47_3 : List Nat := 167 :: 255 :: 220 :: 3 :: 60 :: 27 :: 16 :: 13 :: 162 :: 0 :: 22 :: 42 :: 27 :: 184 :: 0 :: 100 :: dt47_4
noncomputable def dt47_2 : List Nat := 184 :: 0 :: 92 :: 153 :: 0 :: 16 :: 42 :: 89 :: 180 :: 0 :: 26 :: 4 :: 96 :: 181 :: 0 :: 26 :: dt47_3
noncomputable def dt47_1 : List Nat := 42 :: 180 :: 0 :: 15 :: 162 :: 0 :: 31 :: 42 :: 180 :: 0 :: 11 :: 42 :: 180 :: 0 :: 26 :: 51 :: dt47_2
noncomputable def dt47_0 : List Nat := 42 :: 182 :: 0 :: 39 :: 42 :: 42 :: 180 :: 0 :: 26 :: 181 :: 0 :: 29 :: 42 :: 180 :: 0 :: 26 :: dt47_1
theorem dw47_0 : dn cX5_nextWord 0 = dt47_0 := by decide +kernel
theorem dw47_1 : dn cX5_nextWord 16 = dt47_1 := dn_w dw47_0 16 rfl
theorem dw47_2 : dn cX5_nextWord 32 = dt47_2 := dn_w dw47_1 16 rfl
theorem dw47_3 : dn cX5_nextWord 48 = dt47_3 := dn_w dw47_2 16 rfl
theorem dw47_4 : dn cX5_nextWord 64 = dt47_4 := dn_w dw47_3 16 rfl
theorem dX5_nextWord_0 : DE cX5_nextWord 0 (.aload_n 0) 1 := dop_42 (dn_w dw47_0 0 rfl)
theorem dX5_nextWord_1 : DE cX5_nextWord 1 (.invokevirtual 39) 3 := dop_182 (dn_w dw47_0 1 rfl) rfl
theorem dX5_nextWord_4 : DE cX5_nextWord 4 (.aload_n 0) 1 := dop_42 (dn_w dw47_0 4 rfl)
theorem dX5_nextWord_5 : DE cX5_nextWord 5 (.aload_n 0) 1 := dop_42 (dn_w dw47_0 5 rfl)
theorem dX5_nextWord_6 : DE cX5_nextWord 6 (.getfield 26) 3 := dop_180 (dn_w dw47_0 6 rfl) rfl
theorem dX5_nextWord_9 : DE cX5_nextWord 9 (.putfield 29) 3 := dop_181 (dn_w dw47_0 9 rfl) rfl
theorem dX5_nextWord_12 : DE cX5_nextWord 12 (.aload_n 0) 1 := dop_42 (dn_w dw47_0 12 rfl)
theorem dX5_nextWord_13 : DE cX5_nextWord 13 (.getfield 26) 3 := dop_180 (dn_w dw47_0 13 rfl) rfl
theorem dX5_nextWord_16 : DE cX5_nextWord 16 (.aload_n 0) 1 := dop_42 (dn_w dw47_1 0 rfl)
theorem dX5_nextWord_17 : DE cX5_nextWord 17 (.getfield 15) 3 := dop_180 (dn_w dw47_1 1 rfl) rfl
theorem dX5_nextWord_20 : DE cX5_nextWord 20 (.if_icmp .ge 31) 3 := dop_162 (dn_w dw47_1 4 rfl) rfl
theorem dX5_nextWord_23 : DE cX5_nextWord 23 (.aload_n 0) 1 := dop_42 (dn_w dw47_1 7 rfl)
theorem dX5_nextWord_24 : DE cX5_nextWord 24 (.getfield 11) 3 := dop_180 (dn_w dw47_1 8 rfl) rfl
theorem dX5_nextWord_27 : DE cX5_nextWord 27 (.aload_n 0) 1 := dop_42 (dn_w dw47_1 11 rfl)
theorem dX5_nextWord_28 : DE cX5_nextWord 28 (.getfield 26) 3 := dop_180 (dn_w dw47_1 12 rfl) rfl
theorem dX5_nextWord_31 : DE cX5_nextWord 31 (.baload) 1 := dop_51 (dn_w dw47_1 15 rfl)
theorem dX5_nextWord_32 : DE cX5_nextWord 32 (.invokestatic 92) 3 := dop_184 (dn_w dw47_2 0 rfl) rfl
theorem dX5_nextWord_35 : DE cX5_nextWord 35 (.ifCond .eq 16) 3 := dop_153 (dn_w dw47_2 3 rfl) rfl
theorem dX5_nextWord_38 : DE cX5_nextWord 38 (.aload_n 0) 1 := dop_42 (dn_w dw47_2 6 rfl)
theorem dX5_nextWord_39 : DE cX5_nextWord 39 (.dup) 1 := dop_89 (dn_w dw47_2 7 rfl)
theorem dX5_nextWord_40 : DE cX5_nextWord 40 (.getfield 26) 3 := dop_180 (dn_w dw47_2 8 rfl) rfl
theorem dX5_nextWord_43 : DE cX5_nextWord 43 (.iconst 1) 1 := dop_4 (dn_w dw47_2 11 rfl)
theorem dX5_nextWord_44 : DE cX5_nextWord 44 (.iadd) 1 := dop_96 (dn_w dw47_2 12 rfl)
theorem dX5_nextWord_45 : DE cX5_nextWord 45 (.putfield 26) 3 := dop_181 (dn_w dw47_2 13 rfl) rfl
theorem dX5_nextWord_48 : DE cX5_nextWord 48 (.goto (-36)) 3 := dop_167 (dn_w dw47_3 0 rfl) rfl
theorem dX5_nextWord_51 : DE cX5_nextWord 51 (.iconst 0) 1 := dop_3 (dn_w dw47_3 3 rfl)
theorem dX5_nextWord_52 : DE cX5_nextWord 52 (.istore_n 1) 1 := dop_60 (dn_w dw47_3 4 rfl)
theorem dX5_nextWord_53 : DE cX5_nextWord 53 (.iload_n 1) 1 := dop_27 (dn_w dw47_3 5 rfl)
theorem dX5_nextWord_54 : DE cX5_nextWord 54 (.bipush 13) 2 := dop_16 (dn_w dw47_3 6 rfl) rfl
theorem dX5_nextWord_56 : DE cX5_nextWord 56 (.if_icmp .ge 22) 3 := dop_162 (dn_w dw47_3 8 rfl) rfl
theorem dX5_nextWord_59 : DE cX5_nextWord 59 (.aload_n 0) 1 := dop_42 (dn_w dw47_3 11 rfl)
theorem dX5_nextWord_60 : DE cX5_nextWord 60 (.iload_n 1) 1 := dop_27 (dn_w dw47_3 12 rfl)
theorem dX5_nextWord_61 : DE cX5_nextWord 61 (.invokestatic 100) 3 := dop_184 (dn_w dw47_3 13 rfl) rfl
theorem dX5_nextWord_64 : DE cX5_nextWord 64 (.invokevirtual 104) 3 := dop_182 (dn_w dw47_4 0 rfl) rfl
theorem dX5_nextWord_67 : DE cX5_nextWord 67 (.ifCond .eq 5) 3 := dop_153 (dn_w dw47_4 3 rfl) rfl
theorem dX5_nextWord_70 : DE cX5_nextWord 70 (.iload_n 1) 1 := dop_27 (dn_w dw47_4 6 rfl)
theorem dX5_nextWord_71 : DE cX5_nextWord 71 (.ireturn) 1 := dop_172 (dn_w dw47_4 7 rfl)
theorem dX5_nextWord_72 : DE cX5_nextWord 72 (.iinc 1 1) 3 := dop_132 (dn_w dw47_4 8 rfl) rfl
theorem dX5_nextWord_75 : DE cX5_nextWord 75 (.goto (-22)) 3 := dop_167 (dn_w dw47_4 11 rfl) rfl
theorem dX5_nextWord_78 : DE cX5_nextWord 78 (.iconst (-1)) 1 := dop_2 (dn_w dw47_4 14 rfl)
theorem dX5_nextWord_79 : DE cX5_nextWord 79 (.ireturn) 1 := dop_172 (dn_w dw47_4 15 rfl)
noncomputable def dt48_3 : List Nat := 132 :: 3 :: 1 :: 167 :: 255 :: 227 :: 4 :: 172 :: []
noncomputable def dt48_2 : List Nat := 180 :: 0 :: 29 :: 29 :: 96 :: 51 :: 43 :: 29 :: 182 :: 0 :: 113 :: 159 :: 0 :: 5 :: 3 :: 172 :: dt48_3
noncomputable def dt48_1 : List Nat := 0 :: 5 :: 3 :: 172 :: 3 :: 62 :: 29 :: 28 :: 162 :: 0 :: 30 :: 42 :: 180 :: 0 :: 11 :: 42 :: dt48_2
noncomputable def dt48_0 : List Nat := 43 :: 182 :: 0 :: 108 :: 61 :: 42 :: 180 :: 0 :: 26 :: 42 :: 180 :: 0 :: 29 :: 100 :: 28 :: 159 :: dt48_1
theorem dw48_0 : dn cX5_isMarked 0 = dt48_0 := by decide +kernel
theorem dw48_1 : dn cX5_isMarked 16 = dt48_1 := dn_w dw48_0 16 rfl
theorem dw48_2 : dn cX5_isMarked 32 = dt48_2 := dn_w dw48_1 16 rfl
theorem dw48_3 : dn cX5_isMarked 48 = dt48_3 := dn_w dw48_2 16 rfl
theorem dX5_isMarked_0 : DE cX5_isMarked 0 (.aload_n 1) 1 := dop_43 (dn_w dw48_0 0 rfl)
theorem dX5_isMarked_1 : DE cX5_isMarked 1 (.invokevirtual 108) 3 := dop_182 (dn_w dw48_0 1 rfl) rfl
theorem dX5_isMarked_4 : DE cX5_isMarked 4 (.istore_n 2) 1 := dop_61 (dn_w dw48_0 4 rfl)
theorem dX5_isMarked_5 : DE cX5_isMarked 5 (.aload_n 0) 1 := dop_42 (dn_w dw48_0 5 rfl)
theorem dX5_isMarked_6 : DE cX5_isMarked 6 (.getfield 26) 3 := dop_180 (dn_w dw48_0 6 rfl) rfl
theorem dX5_isMarked_9 : DE cX5_isMarked 9 (.aload_n 0) 1 := dop_42 (dn_w dw48_0 9 rfl)
theorem dX5_isMarked_10 : DE cX5_isMarked 10 (.getfield 29) 3 := dop_180 (dn_w dw48_0 10 rfl) rfl
theorem dX5_isMarked_13 : DE cX5_isMarked 13 (.isub) 1 := dop_100 (dn_w dw48_0 13 rfl)
theorem dX5_isMarked_14 : DE cX5_isMarked 14 (.iload_n 2) 1 := dop_28 (dn_w dw48_0 14 rfl)
theorem dX5_isMarked_15 : DE cX5_isMarked 15 (.if_icmp .eq 5) 3 := dop_159 (dn_w dw48_0 15 rfl) rfl
theorem dX5_isMarked_18 : DE cX5_isMarked 18 (.iconst 0) 1 := dop_3 (dn_w dw48_1 2 rfl)
theorem dX5_isMarked_19 : DE cX5_isMarked 19 (.ireturn) 1 := dop_172 (dn_w dw48_1 3 rfl)
theorem dX5_isMarked_20 : DE cX5_isMarked 20 (.iconst 0) 1 := dop_3 (dn_w dw48_1 4 rfl)
theorem dX5_isMarked_21 : DE cX5_isMarked 21 (.istore_n 3) 1 := dop_62 (dn_w dw48_1 5 rfl)
theorem dX5_isMarked_22 : DE cX5_isMarked 22 (.iload_n 3) 1 := dop_29 (dn_w dw48_1 6 rfl)
theorem dX5_isMarked_23 : DE cX5_isMarked 23 (.iload_n 2) 1 := dop_28 (dn_w dw48_1 7 rfl)
theorem dX5_isMarked_24 : DE cX5_isMarked 24 (.if_icmp .ge 30) 3 := dop_162 (dn_w dw48_1 8 rfl) rfl
theorem dX5_isMarked_27 : DE cX5_isMarked 27 (.aload_n 0) 1 := dop_42 (dn_w dw48_1 11 rfl)
theorem dX5_isMarked_28 : DE cX5_isMarked 28 (.getfield 11) 3 := dop_180 (dn_w dw48_1 12 rfl) rfl
theorem dX5_isMarked_31 : DE cX5_isMarked 31 (.aload_n 0) 1 := dop_42 (dn_w dw48_1 15 rfl)
theorem dX5_isMarked_32 : DE cX5_isMarked 32 (.getfield 29) 3 := dop_180 (dn_w dw48_2 0 rfl) rfl
theorem dX5_isMarked_35 : DE cX5_isMarked 35 (.iload_n 3) 1 := dop_29 (dn_w dw48_2 3 rfl)
theorem dX5_isMarked_36 : DE cX5_isMarked 36 (.iadd) 1 := dop_96 (dn_w dw48_2 4 rfl)
theorem dX5_isMarked_37 : DE cX5_isMarked 37 (.baload) 1 := dop_51 (dn_w dw48_2 5 rfl)
theorem dX5_isMarked_38 : DE cX5_isMarked 38 (.aload_n 1) 1 := dop_43 (dn_w dw48_2 6 rfl)
theorem dX5_isMarked_39 : DE cX5_isMarked 39 (.iload_n 3) 1 := dop_29 (dn_w dw48_2 7 rfl)
theorem dX5_isMarked_40 : DE cX5_isMarked 40 (.invokevirtual 113) 3 := dop_182 (dn_w dw48_2 8 rfl) rfl
theorem dX5_isMarked_43 : DE cX5_isMarked 43 (.if_icmp .eq 5) 3 := dop_159 (dn_w dw48_2 11 rfl) rfl
theorem dX5_isMarked_46 : DE cX5_isMarked 46 (.iconst 0) 1 := dop_3 (dn_w dw48_2 14 rfl)
theorem dX5_isMarked_47 : DE cX5_isMarked 47 (.ireturn) 1 := dop_172 (dn_w dw48_2 15 rfl)
theorem dX5_isMarked_48 : DE cX5_isMarked 48 (.iinc 3 1) 3 := dop_132 (dn_w dw48_3 0 rfl) rfl
theorem dX5_isMarked_51 : DE cX5_isMarked 51 (.goto (-29)) 3 := dop_167 (dn_w dw48_3 3 rfl) rfl
theorem dX5_isMarked_54 : DE cX5_isMarked 54 (.iconst 1) 1 := dop_4 (dn_w dw48_3 6 rfl)
theorem dX5_isMarked_55 : DE cX5_isMarked 55 (.ireturn) 1 := dop_172 (dn_w dw48_3 7 rfl)
noncomputable def dt49_1 : List Nat := 3 :: 172 :: []
noncomputable def dt49_0 : List Nat := 26 :: 16 :: 97 :: 161 :: 0 :: 13 :: 26 :: 16 :: 122 :: 163 :: 0 :: 7 :: 4 :: 167 :: 0 :: 4 :: dt49_1
theorem dw49_0 : dn cX5_isLetter 0 = dt49_0 := by decide +kernel
theorem dw49_1 : dn cX5_isLetter 16 = dt49_1 := dn_w dw49_0 16 rfl
theorem dX5_isLetter_0 : DE cX5_isLetter 0 (.iload_n 0) 1 := dop_26 (dn_w dw49_0 0 rfl)
theorem dX5_isLetter_1 : DE cX5_isLetter 1 (.bipush 97) 2 := dop_16 (dn_w dw49_0 1 rfl) rfl
theorem dX5_isLetter_3 : DE cX5_isLetter 3 (.if_icmp .lt 13) 3 := dop_161 (dn_w dw49_0 3 rfl) rfl
theorem dX5_isLetter_6 : DE cX5_isLetter 6 (.iload_n 0) 1 := dop_26 (dn_w dw49_0 6 rfl)
theorem dX5_isLetter_7 : DE cX5_isLetter 7 (.bipush 122) 2 := dop_16 (dn_w dw49_0 7 rfl) rfl
theorem dX5_isLetter_9 : DE cX5_isLetter 9 (.if_icmp .gt 7) 3 := dop_163 (dn_w dw49_0 9 rfl) rfl
theorem dX5_isLetter_12 : DE cX5_isLetter 12 (.iconst 1) 1 := dop_4 (dn_w dw49_0 12 rfl)
theorem dX5_isLetter_13 : DE cX5_isLetter 13 (.goto 4) 3 := dop_167 (dn_w dw49_0 13 rfl) rfl
theorem dX5_isLetter_16 : DE cX5_isLetter 16 (.iconst 0) 1 := dop_3 (dn_w dw49_1 0 rfl)
theorem dX5_isLetter_17 : DE cX5_isLetter 17 (.ireturn) 1 := dop_172 (dn_w dw49_1 1 rfl)
noncomputable def dt50_6 : List Nat := 176 :: 18 :: 137 :: 176 :: 18 :: 139 :: 176 :: []
noncomputable def dt50_5 : List Nat := 127 :: 176 :: 18 :: 129 :: 176 :: 18 :: 131 :: 176 :: 18 :: 133 :: 176 :: 18 :: 135 :: 176 :: 18 :: 136 :: dt50_6
noncomputable def dt50_4 : List Nat := 18 :: 117 :: 176 :: 18 :: 119 :: 176 :: 18 :: 121 :: 176 :: 18 :: 123 :: 176 :: 18 :: 125 :: 176 :: 18 :: dt50_5
noncomputable def dt50_3 : List Nat := 0 :: 0 :: 0 :: 87 :: 0 :: 0 :: 0 :: 90 :: 0 :: 0 :: 0 :: 93 :: 0 :: 0 :: 0 :: 96 :: dt50_4
noncomputable def dt50_2 : List Nat := 0 :: 0 :: 0 :: 75 :: 0 :: 0 :: 0 :: 78 :: 0 :: 0 :: 0 :: 81 :: 0 :: 0 :: 0 :: 84 :: dt50_3
noncomputable def dt50_1 : List Nat := 0 :: 0 :: 0 :: 63 :: 0 :: 0 :: 0 :: 66 :: 0 :: 0 :: 0 :: 69 :: 0 :: 0 :: 0 :: 72 :: dt50_2
noncomputable def dt50_0 : List Nat := 26 :: 170 :: 0 :: 0 :: 0 :: 0 :: 0 :: 99 :: 0 :: 0 :: 0 :: 0 :: 0 :: 0 :: 0 :: 11 :: dt50_1
theorem dw50_0 : dn cX5_nameOf 0 = dt50_0 := by decide +kernel
theorem dw50_1 : dn cX5_nameOf 16 = dt50_1 := dn_w dw50_0 16 rfl
theorem dw50_2 : dn cX5_nameOf 32 = dt50_2 := dn_w dw50_1 16 rfl
theorem dw50_3 : dn cX5_nameOf 48 = dt50_3 := dn_w dw50_2 16 rfl
theorem dw50_4 : dn cX5_nameOf 64 = dt50_4 := dn_w dw50_3 16 rfl
theorem dw50_5 : dn cX5_nameOf 80 = dt50_5 := dn_w dw50_4 16 rfl
theorem dw50_6 : dn cX5_nameOf 96 = dt50_6 := dn_w dw50_5 16 rfl
theorem dX5_nameOf_0 : DE cX5_nameOf 0 (.iload_n 0) 1 := dop_26 (dn_w dw50_0 0 rfl)
theorem dX5_nameOf_1 : decode cX5_nameOf 1 = .ok (.tableswitch 99 0 11 #[63, 66, 69, 72, 75, 78, 81, 84, 87, 90, 93, 96], 63) := by decide +kernel
theorem dX5_nameOf_64 : DE cX5_nameOf 64 (.ldc 117) 2 := dop_18 (dn_w dw50_4 0 rfl)
theorem dX5_nameOf_66 : DE cX5_nameOf 66 (.areturn) 1 := dop_176 (dn_w dw50_4 2 rfl)
theorem dX5_nameOf_67 : DE cX5_nameOf 67 (.ldc 119) 2 := dop_18 (dn_w dw50_4 3 rfl)
theorem dX5_nameOf_69 : DE cX5_nameOf 69 (.areturn) 1 := dop_176 (dn_w dw50_4 5 rfl)
theorem dX5_nameOf_70 : DE cX5_nameOf 70 (.ldc 121) 2 := dop_18 (dn_w dw50_4 6 rfl)
theorem dX5_nameOf_72 : DE cX5_nameOf 72 (.areturn) 1 := dop_176 (dn_w dw50_4 8 rfl)
theorem dX5_nameOf_73 : DE cX5_nameOf 73 (.ldc 123) 2 := dop_18 (dn_w dw50_4 9 rfl)
theorem dX5_nameOf_75 : DE cX5_nameOf 75 (.areturn) 1 := dop_176 (dn_w dw50_4 11 rfl)
theorem dX5_nameOf_76 : DE cX5_nameOf 76 (.ldc 125) 2 := dop_18 (dn_w dw50_4 12 rfl)
theorem dX5_nameOf_78 : DE cX5_nameOf 78 (.areturn) 1 := dop_176 (dn_w dw50_4 14 rfl)
theorem dX5_nameOf_79 : DE cX5_nameOf 79 (.ldc 127) 2 := dop_18 (dn_w dw50_4 15 rfl)
theorem dX5_nameOf_81 : DE cX5_nameOf 81 (.areturn) 1 := dop_176 (dn_w dw50_5 1 rfl)
theorem dX5_nameOf_82 : DE cX5_nameOf 82 (.ldc 129) 2 := dop_18 (dn_w dw50_5 2 rfl)
theorem dX5_nameOf_84 : DE cX5_nameOf 84 (.areturn) 1 := dop_176 (dn_w dw50_5 4 rfl)
theorem dX5_nameOf_85 : DE cX5_nameOf 85 (.ldc 131) 2 := dop_18 (dn_w dw50_5 5 rfl)
theorem dX5_nameOf_87 : DE cX5_nameOf 87 (.areturn) 1 := dop_176 (dn_w dw50_5 7 rfl)
theorem dX5_nameOf_88 : DE cX5_nameOf 88 (.ldc 133) 2 := dop_18 (dn_w dw50_5 8 rfl)
theorem dX5_nameOf_90 : DE cX5_nameOf 90 (.areturn) 1 := dop_176 (dn_w dw50_5 10 rfl)
theorem dX5_nameOf_91 : DE cX5_nameOf 91 (.ldc 135) 2 := dop_18 (dn_w dw50_5 11 rfl)
theorem dX5_nameOf_93 : DE cX5_nameOf 93 (.areturn) 1 := dop_176 (dn_w dw50_5 13 rfl)
theorem dX5_nameOf_94 : DE cX5_nameOf 94 (.ldc 136) 2 := dop_18 (dn_w dw50_5 14 rfl)
theorem dX5_nameOf_96 : DE cX5_nameOf 96 (.areturn) 1 := dop_176 (dn_w dw50_6 0 rfl)
theorem dX5_nameOf_97 : DE cX5_nameOf 97 (.ldc 137) 2 := dop_18 (dn_w dw50_6 1 rfl)
theorem dX5_nameOf_99 : DE cX5_nameOf 99 (.areturn) 1 := dop_176 (dn_w dw50_6 3 rfl)
theorem dX5_nameOf_100 : DE cX5_nameOf 100 (.ldc 139) 2 := dop_18 (dn_w dw50_6 4 rfl)
theorem dX5_nameOf_102 : DE cX5_nameOf 102 (.areturn) 1 := dop_176 (dn_w dw50_6 6 rfl)
noncomputable def dt51_2 : List Nat := 42 :: 3 :: 181 :: 0 :: 28 :: 177 :: []
noncomputable def dt51_1 : List Nat := 15 :: 42 :: 3 :: 181 :: 0 :: 19 :: 42 :: 3 :: 181 :: 0 :: 22 :: 42 :: 3 :: 181 :: 0 :: 25 :: dt51_2
noncomputable def dt51_0 : List Nat := 42 :: 183 :: 0 :: 3 :: 42 :: 16 :: 30 :: 188 :: 10 :: 181 :: 0 :: 11 :: 42 :: 3 :: 181 :: 0 :: dt51_1
theorem dw51_0 : dn cX6_init 0 = dt51_0 := by decide +kernel
theorem dw51_1 : dn cX6_init 16 = dt51_1 := dn_w dw51_0 16 rfl
theorem dw51_2 : dn cX6_init 32 = dt51_2 := dn_w dw51_1 16 rfl
theorem dX6_init_0 : DE cX6_init 0 (.aload_n 0) 1 := dop_42 (dn_w dw51_0 0 rfl)
theorem dX6_init_1 : DE cX6_init 1 (.invokespecial 3) 3 := dop_183 (dn_w dw51_0 1 rfl) rfl
theorem dX6_init_4 : DE cX6_init 4 (.aload_n 0) 1 := dop_42 (dn_w dw51_0 4 rfl)
theorem dX6_init_5 : DE cX6_init 5 (.bipush 30) 2 := dop_16 (dn_w dw51_0 5 rfl) rfl
theorem dX6_init_7 : decode cX6_init 7 = .ok (.newarray .int, 2) := by decide +kernel
theorem dX6_init_9 : DE cX6_init 9 (.putfield 11) 3 := dop_181 (dn_w dw51_0 9 rfl) rfl
theorem dX6_init_12 : DE cX6_init 12 (.aload_n 0) 1 := dop_42 (dn_w dw51_0 12 rfl)
theorem dX6_init_13 : DE cX6_init 13 (.iconst 0) 1 := dop_3 (dn_w dw51_0 13 rfl)
theorem dX6_init_14 : DE cX6_init 14 (.putfield 15) 3 := dop_181 (dn_w dw51_0 14 rfl) rfl
theorem dX6_init_17 : DE cX6_init 17 (.aload_n 0) 1 := dop_42 (dn_w dw51_1 1 rfl)
theorem dX6_init_18 : DE cX6_init 18 (.iconst 0) 1 := dop_3 (dn_w dw51_1 2 rfl)
theorem dX6_init_19 : DE cX6_init 19 (.putfield 19) 3 := dop_181 (dn_w dw51_1 3 rfl) rfl
theorem dX6_init_22 : DE cX6_init 22 (.aload_n 0) 1 := dop_42 (dn_w dw51_1 6 rfl)
theorem dX6_init_23 : DE cX6_init 23 (.iconst 0) 1 := dop_3 (dn_w dw51_1 7 rfl)
theorem dX6_init_24 : DE cX6_init 24 (.putfield 22) 3 := dop_181 (dn_w dw51_1 8 rfl) rfl
theorem dX6_init_27 : DE cX6_init 27 (.aload_n 0) 1 := dop_42 (dn_w dw51_1 11 rfl)
theorem dX6_init_28 : DE cX6_init 28 (.iconst 0) 1 := dop_3 (dn_w dw51_1 12 rfl)
theorem dX6_init_29 : DE cX6_init 29 (.putfield 25) 3 := dop_181 (dn_w dw51_1 13 rfl) rfl
theorem dX6_init_32 : DE cX6_init 32 (.aload_n 0) 1 := dop_42 (dn_w dw51_2 0 rfl)
theorem dX6_init_33 : DE cX6_init 33 (.iconst 0) 1 := dop_3 (dn_w dw51_2 1 rfl)
theorem dX6_init_34 : DE cX6_init 34 (.putfield 28) 3 := dop_181 (dn_w dw51_2 2 rfl) rfl
theorem dX6_init_37 : DE cX6_init 37 (.return_) 1 := dop_177 (dn_w dw51_2 5 rfl)
noncomputable def dt52_0 : List Nat := 42 :: 3 :: 181 :: 0 :: 15 :: 42 :: 3 :: 181 :: 0 :: 28 :: 177 :: []
theorem dw52_0 : dn cX6_clearTrace 0 = dt52_0 := by decide +kernel
theorem dX6_clearTrace_0 : DE cX6_clearTrace 0 (.aload_n 0) 1 := dop_42 (dn_w dw52_0 0 rfl)
theorem dX6_clearTrace_1 : DE cX6_clearTrace 1 (.iconst 0) 1 := dop_3 (dn_w dw52_0 1 rfl)
theorem dX6_clearTrace_2 : DE cX6_clearTrace 2 (.putfield 15) 3 := dop_181 (dn_w dw52_0 2 rfl) rfl
theorem dX6_clearTrace_5 : DE cX6_clearTrace 5 (.aload_n 0) 1 := dop_42 (dn_w dw52_0 5 rfl)
theorem dX6_clearTrace_6 : DE cX6_clearTrace 6 (.iconst 0) 1 := dop_3 (dn_w dw52_0 6 rfl)
theorem dX6_clearTrace_7 : DE cX6_clearTrace 7 (.putfield 28) 3 := dop_181 (dn_w dw52_0 7 rfl) rfl
theorem dX6_clearTrace_10 : DE cX6_clearTrace 10 (.return_) 1 := dop_177 (dn_w dw52_0 10 rfl)
noncomputable def dt53_2 : List Nat := 0 :: 28 :: 153 :: 0 :: 8 :: 16 :: 241 :: 167 :: 0 :: 5 :: 21 :: 6 :: 172 :: []
noncomputable def dt53_1 : List Nat := 21 :: 4 :: 42 :: 180 :: 0 :: 19 :: 21 :: 5 :: 3 :: 182 :: 0 :: 32 :: 54 :: 6 :: 42 :: 180 :: dt53_2
noncomputable def dt53_0 : List Nat := 42 :: 27 :: 181 :: 0 :: 19 :: 42 :: 28 :: 181 :: 0 :: 22 :: 42 :: 29 :: 181 :: 0 :: 25 :: 42 :: dt53_1
theorem dw53_0 : dn cX6_answerOf 0 = dt53_0 := by decide +kernel
theorem dw53_1 : dn cX6_answerOf 16 = dt53_1 := dn_w dw53_0 16 rfl
theorem dw53_2 : dn cX6_answerOf 32 = dt53_2 := dn_w dw53_1 16 rfl
theorem dX6_answerOf_0 : DE cX6_answerOf 0 (.aload_n 0) 1 := dop_42 (dn_w dw53_0 0 rfl)
theorem dX6_answerOf_1 : DE cX6_answerOf 1 (.iload_n 1) 1 := dop_27 (dn_w dw53_0 1 rfl)
theorem dX6_answerOf_2 : DE cX6_answerOf 2 (.putfield 19) 3 := dop_181 (dn_w dw53_0 2 rfl) rfl
theorem dX6_answerOf_5 : DE cX6_answerOf 5 (.aload_n 0) 1 := dop_42 (dn_w dw53_0 5 rfl)
theorem dX6_answerOf_6 : DE cX6_answerOf 6 (.iload_n 2) 1 := dop_28 (dn_w dw53_0 6 rfl)
theorem dX6_answerOf_7 : DE cX6_answerOf 7 (.putfield 22) 3 := dop_181 (dn_w dw53_0 7 rfl) rfl
theorem dX6_answerOf_10 : DE cX6_answerOf 10 (.aload_n 0) 1 := dop_42 (dn_w dw53_0 10 rfl)
theorem dX6_answerOf_11 : DE cX6_answerOf 11 (.iload_n 3) 1 := dop_29 (dn_w dw53_0 11 rfl)
theorem dX6_answerOf_12 : DE cX6_answerOf 12 (.putfield 25) 3 := dop_181 (dn_w dw53_0 12 rfl) rfl
theorem dX6_answerOf_15 : DE cX6_answerOf 15 (.aload_n 0) 1 := dop_42 (dn_w dw53_0 15 rfl)
theorem dX6_answerOf_16 : DE cX6_answerOf 16 (.iload 4) 2 := dop_21 (dn_w dw53_1 0 rfl)
theorem dX6_answerOf_18 : DE cX6_answerOf 18 (.aload_n 0) 1 := dop_42 (dn_w dw53_1 2 rfl)
theorem dX6_answerOf_19 : DE cX6_answerOf 19 (.getfield 19) 3 := dop_180 (dn_w dw53_1 3 rfl) rfl
theorem dX6_answerOf_22 : DE cX6_answerOf 22 (.iload 5) 2 := dop_21 (dn_w dw53_1 6 rfl)
theorem dX6_answerOf_24 : DE cX6_answerOf 24 (.iconst 0) 1 := dop_3 (dn_w dw53_1 8 rfl)
theorem dX6_answerOf_25 : DE cX6_answerOf 25 (.invokevirtual 32) 3 := dop_182 (dn_w dw53_1 9 rfl) rfl
theorem dX6_answerOf_28 : DE cX6_answerOf 28 (.istore 6) 2 := dop_54 (dn_w dw53_1 12 rfl)
theorem dX6_answerOf_30 : DE cX6_answerOf 30 (.aload_n 0) 1 := dop_42 (dn_w dw53_1 14 rfl)
theorem dX6_answerOf_31 : DE cX6_answerOf 31 (.getfield 28) 3 := dop_180 (dn_w dw53_1 15 rfl) rfl
theorem dX6_answerOf_34 : DE cX6_answerOf 34 (.ifCond .eq 8) 3 := dop_153 (dn_w dw53_2 2 rfl) rfl
theorem dX6_answerOf_37 : DE cX6_answerOf 37 (.bipush (-15)) 2 := dop_16 (dn_w dw53_2 5 rfl) rfl
theorem dX6_answerOf_39 : DE cX6_answerOf 39 (.goto 5) 3 := dop_167 (dn_w dw53_2 7 rfl) rfl
theorem dX6_answerOf_42 : DE cX6_answerOf 42 (.iload 6) 2 := dop_21 (dn_w dw53_2 10 rfl)
theorem dX6_answerOf_44 : DE cX6_answerOf 44 (.ireturn) 1 := dop_172 (dn_w dw53_2 12 rfl)
noncomputable def dt54_4 : List Nat := 172 :: []
noncomputable def dt54_3 : List Nat := 4 :: 96 :: 181 :: 0 :: 15 :: 42 :: 21 :: 5 :: 29 :: 21 :: 4 :: 4 :: 96 :: 182 :: 0 :: 40 :: dt54_4
noncomputable def dt54_2 : List Nat := 42 :: 180 :: 0 :: 11 :: 42 :: 180 :: 0 :: 15 :: 21 :: 5 :: 79 :: 42 :: 89 :: 180 :: 0 :: 15 :: dt54_3
noncomputable def dt54_1 : List Nat := 27 :: 28 :: 184 :: 0 :: 36 :: 54 :: 5 :: 42 :: 180 :: 0 :: 15 :: 16 :: 30 :: 162 :: 0 :: 24 :: dt54_2
noncomputable def dt54_0 : List Nat := 42 :: 180 :: 0 :: 28 :: 154 :: 0 :: 10 :: 21 :: 4 :: 16 :: 30 :: 164 :: 0 :: 5 :: 3 :: 172 :: dt54_1
theorem dw54_0 : dn cX6_runAct 0 = dt54_0 := by decide +kernel
theorem dw54_1 : dn cX6_runAct 16 = dt54_1 := dn_w dw54_0 16 rfl
theorem dw54_2 : dn cX6_runAct 32 = dt54_2 := dn_w dw54_1 16 rfl
theorem dw54_3 : dn cX6_runAct 48 = dt54_3 := dn_w dw54_2 16 rfl
theorem dw54_4 : dn cX6_runAct 64 = dt54_4 := dn_w dw54_3 16 rfl
theorem dX6_runAct_0 : DE cX6_runAct 0 (.aload_n 0) 1 := dop_42 (dn_w dw54_0 0 rfl)
theorem dX6_runAct_1 : DE cX6_runAct 1 (.getfield 28) 3 := dop_180 (dn_w dw54_0 1 rfl) rfl
theorem dX6_runAct_4 : DE cX6_runAct 4 (.ifCond .ne 10) 3 := dop_154 (dn_w dw54_0 4 rfl) rfl
theorem dX6_runAct_7 : DE cX6_runAct 7 (.iload 4) 2 := dop_21 (dn_w dw54_0 7 rfl)
theorem dX6_runAct_9 : DE cX6_runAct 9 (.bipush 30) 2 := dop_16 (dn_w dw54_0 9 rfl) rfl
theorem dX6_runAct_11 : DE cX6_runAct 11 (.if_icmp .le 5) 3 := dop_164 (dn_w dw54_0 11 rfl) rfl
theorem dX6_runAct_14 : DE cX6_runAct 14 (.iconst 0) 1 := dop_3 (dn_w dw54_0 14 rfl)
theorem dX6_runAct_15 : DE cX6_runAct 15 (.ireturn) 1 := dop_172 (dn_w dw54_0 15 rfl)
theorem dX6_runAct_16 : DE cX6_runAct 16 (.iload_n 1) 1 := dop_27 (dn_w dw54_1 0 rfl)
theorem dX6_runAct_17 : DE cX6_runAct 17 (.iload_n 2) 1 := dop_28 (dn_w dw54_1 1 rfl)
theorem dX6_runAct_18 : DE cX6_runAct 18 (.invokestatic 36) 3 := dop_184 (dn_w dw54_1 2 rfl) rfl
theorem dX6_runAct_21 : DE cX6_runAct 21 (.istore 5) 2 := dop_54 (dn_w dw54_1 5 rfl)
theorem dX6_runAct_23 : DE cX6_runAct 23 (.aload_n 0) 1 := dop_42 (dn_w dw54_1 7 rfl)
theorem dX6_runAct_24 : DE cX6_runAct 24 (.getfield 15) 3 := dop_180 (dn_w dw54_1 8 rfl) rfl
theorem dX6_runAct_27 : DE cX6_runAct 27 (.bipush 30) 2 := dop_16 (dn_w dw54_1 11 rfl) rfl
theorem dX6_runAct_29 : DE cX6_runAct 29 (.if_icmp .ge 24) 3 := dop_162 (dn_w dw54_1 13 rfl) rfl
theorem dX6_runAct_32 : DE cX6_runAct 32 (.aload_n 0) 1 := dop_42 (dn_w dw54_2 0 rfl)
theorem dX6_runAct_33 : DE cX6_runAct 33 (.getfield 11) 3 := dop_180 (dn_w dw54_2 1 rfl) rfl
theorem dX6_runAct_36 : DE cX6_runAct 36 (.aload_n 0) 1 := dop_42 (dn_w dw54_2 4 rfl)
theorem dX6_runAct_37 : DE cX6_runAct 37 (.getfield 15) 3 := dop_180 (dn_w dw54_2 5 rfl) rfl
theorem dX6_runAct_40 : DE cX6_runAct 40 (.iload 5) 2 := dop_21 (dn_w dw54_2 8 rfl)
theorem dX6_runAct_42 : DE cX6_runAct 42 (.iastore) 1 := dop_79 (dn_w dw54_2 10 rfl)
theorem dX6_runAct_43 : DE cX6_runAct 43 (.aload_n 0) 1 := dop_42 (dn_w dw54_2 11 rfl)
theorem dX6_runAct_44 : DE cX6_runAct 44 (.dup) 1 := dop_89 (dn_w dw54_2 12 rfl)
theorem dX6_runAct_45 : DE cX6_runAct 45 (.getfield 15) 3 := dop_180 (dn_w dw54_2 13 rfl) rfl
theorem dX6_runAct_48 : DE cX6_runAct 48 (.iconst 1) 1 := dop_4 (dn_w dw54_3 0 rfl)
theorem dX6_runAct_49 : DE cX6_runAct 49 (.iadd) 1 := dop_96 (dn_w dw54_3 1 rfl)
theorem dX6_runAct_50 : DE cX6_runAct 50 (.putfield 15) 3 := dop_181 (dn_w dw54_3 2 rfl) rfl
theorem dX6_runAct_53 : DE cX6_runAct 53 (.aload_n 0) 1 := dop_42 (dn_w dw54_3 5 rfl)
theorem dX6_runAct_54 : DE cX6_runAct 54 (.iload 5) 2 := dop_21 (dn_w dw54_3 6 rfl)
theorem dX6_runAct_56 : DE cX6_runAct 56 (.iload_n 3) 1 := dop_29 (dn_w dw54_3 8 rfl)
theorem dX6_runAct_57 : DE cX6_runAct 57 (.iload 4) 2 := dop_21 (dn_w dw54_3 9 rfl)
theorem dX6_runAct_59 : DE cX6_runAct 59 (.iconst 1) 1 := dop_4 (dn_w dw54_3 11 rfl)
theorem dX6_runAct_60 : DE cX6_runAct 60 (.iadd) 1 := dop_96 (dn_w dw54_3 12 rfl)
theorem dX6_runAct_61 : DE cX6_runAct 61 (.invokevirtual 40) 3 := dop_182 (dn_w dw54_3 13 rfl) rfl
theorem dX6_runAct_64 : DE cX6_runAct 64 (.ireturn) 1 := dop_172 (dn_w dw54_4 0 rfl)
noncomputable def dt55_4 : List Nat := 198 :: 3 :: 172 :: []
noncomputable def dt55_3 : List Nat := 48 :: 21 :: 4 :: 46 :: 172 :: 178 :: 0 :: 51 :: 28 :: 46 :: 61 :: 132 :: 3 :: 1 :: 167 :: 255 :: dt55_4
noncomputable def dt55_2 : List Nat := 48 :: 190 :: 162 :: 0 :: 19 :: 178 :: 0 :: 48 :: 21 :: 4 :: 46 :: 153 :: 0 :: 10 :: 178 :: 0 :: dt55_3
noncomputable def dt55_1 : List Nat := 28 :: 7 :: 104 :: 26 :: 96 :: 54 :: 4 :: 21 :: 4 :: 155 :: 0 :: 28 :: 21 :: 4 :: 178 :: 0 :: dt55_2
noncomputable def dt55_0 : List Nat := 27 :: 61 :: 3 :: 62 :: 29 :: 6 :: 162 :: 0 :: 59 :: 28 :: 184 :: 0 :: 44 :: 153 :: 0 :: 52 :: dt55_1
theorem dw55_0 : dn cX6_bodyOf 0 = dt55_0 := by decide +kernel
theorem dw55_1 : dn cX6_bodyOf 16 = dt55_1 := dn_w dw55_0 16 rfl
theorem dw55_2 : dn cX6_bodyOf 32 = dt55_2 := dn_w dw55_1 16 rfl
theorem dw55_3 : dn cX6_bodyOf 48 = dt55_3 := dn_w dw55_2 16 rfl
theorem dw55_4 : dn cX6_bodyOf 64 = dt55_4 := dn_w dw55_3 16 rfl
theorem dX6_bodyOf_0 : DE cX6_bodyOf 0 (.iload_n 1) 1 := dop_27 (dn_w dw55_0 0 rfl)
theorem dX6_bodyOf_1 : DE cX6_bodyOf 1 (.istore_n 2) 1 := dop_61 (dn_w dw55_0 1 rfl)
theorem dX6_bodyOf_2 : DE cX6_bodyOf 2 (.iconst 0) 1 := dop_3 (dn_w dw55_0 2 rfl)
theorem dX6_bodyOf_3 : DE cX6_bodyOf 3 (.istore_n 3) 1 := dop_62 (dn_w dw55_0 3 rfl)
theorem dX6_bodyOf_4 : DE cX6_bodyOf 4 (.iload_n 3) 1 := dop_29 (dn_w dw55_0 4 rfl)
theorem dX6_bodyOf_5 : DE cX6_bodyOf 5 (.iconst 3) 1 := dop_6 (dn_w dw55_0 5 rfl)
theorem dX6_bodyOf_6 : DE cX6_bodyOf 6 (.if_icmp .ge 59) 3 := dop_162 (dn_w dw55_0 6 rfl) rfl
theorem dX6_bodyOf_9 : DE cX6_bodyOf 9 (.iload_n 2) 1 := dop_28 (dn_w dw55_0 9 rfl)
theorem dX6_bodyOf_10 : DE cX6_bodyOf 10 (.invokestatic 44) 3 := dop_184 (dn_w dw55_0 10 rfl) rfl
theorem dX6_bodyOf_13 : DE cX6_bodyOf 13 (.ifCond .eq 52) 3 := dop_153 (dn_w dw55_0 13 rfl) rfl
theorem dX6_bodyOf_16 : DE cX6_bodyOf 16 (.iload_n 2) 1 := dop_28 (dn_w dw55_1 0 rfl)
theorem dX6_bodyOf_17 : DE cX6_bodyOf 17 (.iconst 4) 1 := dop_7 (dn_w dw55_1 1 rfl)
theorem dX6_bodyOf_18 : DE cX6_bodyOf 18 (.imul) 1 := dop_104 (dn_w dw55_1 2 rfl)
theorem dX6_bodyOf_19 : DE cX6_bodyOf 19 (.iload_n 0) 1 := dop_26 (dn_w dw55_1 3 rfl)
theorem dX6_bodyOf_20 : DE cX6_bodyOf 20 (.iadd) 1 := dop_96 (dn_w dw55_1 4 rfl)
theorem dX6_bodyOf_21 : DE cX6_bodyOf 21 (.istore 4) 2 := dop_54 (dn_w dw55_1 5 rfl)
theorem dX6_bodyOf_23 : DE cX6_bodyOf 23 (.iload 4) 2 := dop_21 (dn_w dw55_1 7 rfl)
theorem dX6_bodyOf_25 : DE cX6_bodyOf 25 (.ifCond .lt 28) 3 := dop_155 (dn_w dw55_1 9 rfl) rfl
theorem dX6_bodyOf_28 : DE cX6_bodyOf 28 (.iload 4) 2 := dop_21 (dn_w dw55_1 12 rfl)
theorem dX6_bodyOf_30 : DE cX6_bodyOf 30 (.getstatic 48) 3 := dop_178 (dn_w dw55_1 14 rfl) rfl
theorem dX6_bodyOf_33 : DE cX6_bodyOf 33 (.arraylength) 1 := dop_190 (dn_w dw55_2 1 rfl)
theorem dX6_bodyOf_34 : DE cX6_bodyOf 34 (.if_icmp .ge 19) 3 := dop_162 (dn_w dw55_2 2 rfl) rfl
theorem dX6_bodyOf_37 : DE cX6_bodyOf 37 (.getstatic 48) 3 := dop_178 (dn_w dw55_2 5 rfl) rfl
theorem dX6_bodyOf_40 : DE cX6_bodyOf 40 (.iload 4) 2 := dop_21 (dn_w dw55_2 8 rfl)
theorem dX6_bodyOf_42 : DE cX6_bodyOf 42 (.iaload) 1 := dop_46 (dn_w dw55_2 10 rfl)
theorem dX6_bodyOf_43 : DE cX6_bodyOf 43 (.ifCond .eq 10) 3 := dop_153 (dn_w dw55_2 11 rfl) rfl
theorem dX6_bodyOf_46 : DE cX6_bodyOf 46 (.getstatic 48) 3 := dop_178 (dn_w dw55_2 14 rfl) rfl
theorem dX6_bodyOf_49 : DE cX6_bodyOf 49 (.iload 4) 2 := dop_21 (dn_w dw55_3 1 rfl)
theorem dX6_bodyOf_51 : DE cX6_bodyOf 51 (.iaload) 1 := dop_46 (dn_w dw55_3 3 rfl)
theorem dX6_bodyOf_52 : DE cX6_bodyOf 52 (.ireturn) 1 := dop_172 (dn_w dw55_3 4 rfl)
theorem dX6_bodyOf_53 : DE cX6_bodyOf 53 (.getstatic 51) 3 := dop_178 (dn_w dw55_3 5 rfl) rfl
theorem dX6_bodyOf_56 : DE cX6_bodyOf 56 (.iload_n 2) 1 := dop_28 (dn_w dw55_3 8 rfl)
theorem dX6_bodyOf_57 : DE cX6_bodyOf 57 (.iaload) 1 := dop_46 (dn_w dw55_3 9 rfl)
theorem dX6_bodyOf_58 : DE cX6_bodyOf 58 (.istore_n 2) 1 := dop_61 (dn_w dw55_3 10 rfl)
theorem dX6_bodyOf_59 : DE cX6_bodyOf 59 (.iinc 3 1) 3 := dop_132 (dn_w dw55_3 11 rfl) rfl
theorem dX6_bodyOf_62 : DE cX6_bodyOf 62 (.goto (-58)) 3 := dop_167 (dn_w dw55_3 14 rfl) rfl
theorem dX6_bodyOf_65 : DE cX6_bodyOf 65 (.iconst 0) 1 := dop_3 (dn_w dw55_4 1 rfl)
theorem dX6_bodyOf_66 : DE cX6_bodyOf 66 (.ireturn) 1 := dop_172 (dn_w dw55_4 2 rfl)
noncomputable def dt56_28 : List Nat := 96 :: 172 :: 3 :: 172 :: []
noncomputable def dt56_27 : List Nat := 0 :: 32 :: 42 :: 3 :: 42 :: 180 :: 0 :: 19 :: 42 :: 180 :: 0 :: 25 :: 29 :: 182 :: 0 :: 32 :: dt56_28
noncomputable def dt56_26 : List Nat := 182 :: 0 :: 32 :: 5 :: 104 :: 172 :: 42 :: 5 :: 178 :: 0 :: 51 :: 6 :: 46 :: 28 :: 29 :: 182 :: dt56_27
noncomputable def dt56_25 : List Nat := 32 :: 42 :: 180 :: 0 :: 22 :: 100 :: 172 :: 42 :: 6 :: 178 :: 0 :: 51 :: 6 :: 46 :: 28 :: 29 :: dt56_26
noncomputable def dt56_24 : List Nat := 0 :: 32 :: 4 :: 130 :: 172 :: 42 :: 3 :: 178 :: 0 :: 51 :: 7 :: 46 :: 28 :: 29 :: 182 :: 0 :: dt56_25
noncomputable def dt56_23 : List Nat := 0 :: 32 :: 96 :: 172 :: 42 :: 5 :: 178 :: 0 :: 51 :: 7 :: 46 :: 28 :: 5 :: 96 :: 29 :: 182 :: dt56_24
noncomputable def dt56_22 : List Nat := 29 :: 182 :: 0 :: 32 :: 42 :: 3 :: 42 :: 180 :: 0 :: 19 :: 42 :: 180 :: 0 :: 22 :: 29 :: 182 :: dt56_23
noncomputable def dt56_21 : List Nat := 46 :: 28 :: 29 :: 182 :: 0 :: 32 :: 100 :: 172 :: 42 :: 4 :: 178 :: 0 :: 51 :: 8 :: 46 :: 28 :: dt56_22
noncomputable def dt56_20 : List Nat := 180 :: 0 :: 22 :: 29 :: 182 :: 0 :: 32 :: 96 :: 172 :: 3 :: 42 :: 3 :: 178 :: 0 :: 51 :: 8 :: dt56_21
noncomputable def dt56_19 : List Nat := 0 :: 51 :: 5 :: 46 :: 28 :: 29 :: 182 :: 0 :: 32 :: 42 :: 5 :: 42 :: 180 :: 0 :: 19 :: 42 :: dt56_20
noncomputable def dt56_18 : List Nat := 178 :: 0 :: 51 :: 5 :: 46 :: 28 :: 29 :: 182 :: 0 :: 32 :: 6 :: 104 :: 172 :: 42 :: 6 :: 178 :: dt56_19
noncomputable def dt56_17 : List Nat := 51 :: 4 :: 46 :: 28 :: 29 :: 182 :: 0 :: 32 :: 42 :: 180 :: 0 :: 25 :: 100 :: 172 :: 42 :: 3 :: dt56_18
noncomputable def dt56_16 : List Nat := 19 :: 28 :: 29 :: 182 :: 0 :: 32 :: 42 :: 180 :: 0 :: 25 :: 130 :: 172 :: 42 :: 4 :: 178 :: 0 :: dt56_17
noncomputable def dt56_15 : List Nat := 0 :: 32 :: 5 :: 104 :: 172 :: 42 :: 28 :: 182 :: 0 :: 54 :: 172 :: 42 :: 4 :: 42 :: 180 :: 0 :: dt56_16
noncomputable def dt56_14 : List Nat := 28 :: 42 :: 180 :: 0 :: 22 :: 96 :: 172 :: 42 :: 3 :: 42 :: 180 :: 0 :: 19 :: 28 :: 29 :: 182 :: dt56_15
noncomputable def dt56_13 : List Nat := 0 :: 0 :: 1 :: 193 :: 0 :: 0 :: 1 :: 193 :: 0 :: 0 :: 1 :: 150 :: 0 :: 0 :: 1 :: 165 :: dt56_14
noncomputable def dt56_12 : List Nat := 0 :: 0 :: 1 :: 193 :: 0 :: 0 :: 1 :: 193 :: 0 :: 0 :: 1 :: 193 :: 0 :: 0 :: 1 :: 193 :: dt56_13
noncomputable def dt56_11 : List Nat := 0 :: 0 :: 1 :: 115 :: 0 :: 0 :: 1 :: 132 :: 0 :: 0 :: 1 :: 193 :: 0 :: 0 :: 1 :: 193 :: dt56_12
noncomputable def dt56_10 : List Nat := 0 :: 0 :: 1 :: 193 :: 0 :: 0 :: 1 :: 193 :: 0 :: 0 :: 1 :: 193 :: 0 :: 0 :: 1 :: 193 :: dt56_11
noncomputable def dt56_9 : List Nat := 0 :: 0 :: 1 :: 193 :: 0 :: 0 :: 1 :: 193 :: 0 :: 0 :: 1 :: 193 :: 0 :: 0 :: 1 :: 193 :: dt56_10
noncomputable def dt56_8 : List Nat := 0 :: 0 :: 1 :: 193 :: 0 :: 0 :: 1 :: 193 :: 0 :: 0 :: 1 :: 72 :: 0 :: 0 :: 1 :: 87 :: dt56_9
noncomputable def dt56_7 : List Nat := 0 :: 0 :: 1 :: 193 :: 0 :: 0 :: 1 :: 193 :: 0 :: 0 :: 1 :: 193 :: 0 :: 0 :: 1 :: 193 :: dt56_8
noncomputable def dt56_6 : List Nat := 0 :: 0 :: 1 :: 29 :: 0 :: 0 :: 1 :: 44 :: 0 :: 0 :: 1 :: 193 :: 0 :: 0 :: 1 :: 193 :: dt56_7
noncomputable def dt56_5 : List Nat := 0 :: 0 :: 1 :: 193 :: 0 :: 0 :: 1 :: 193 :: 0 :: 0 :: 1 :: 193 :: 0 :: 0 :: 1 :: 193 :: dt56_6
noncomputable def dt56_4 : List Nat := 0 :: 0 :: 1 :: 193 :: 0 :: 0 :: 1 :: 193 :: 0 :: 0 :: 1 :: 193 :: 0 :: 0 :: 1 :: 193 :: dt56_5
noncomputable def dt56_3 : List Nat := 0 :: 0 :: 1 :: 193 :: 0 :: 0 :: 1 :: 193 :: 0 :: 0 :: 1 :: 11 :: 0 :: 0 :: 1 :: 193 :: dt56_4
noncomputable def dt56_2 : List Nat := 0 :: 0 :: 1 :: 193 :: 0 :: 0 :: 1 :: 193 :: 0 :: 0 :: 1 :: 193 :: 0 :: 0 :: 1 :: 193 :: dt56_3
noncomputable def dt56_1 : List Nat := 0 :: 0 :: 0 :: 223 :: 0 :: 0 :: 0 :: 230 :: 0 :: 0 :: 0 :: 244 :: 0 :: 0 :: 0 :: 250 :: dt56_2
noncomputable def dt56_0 : List Nat := 27 :: 170 :: 0 :: 0 :: 0 :: 0 :: 1 :: 193 :: 0 :: 0 :: 0 :: 10 :: 0 :: 0 :: 0 :: 61 :: dt56_1
theorem dw56_0 : dn cX6_runBody 0 = dt56_0 := by decide +kernel
theorem dw56_1 : dn cX6_runBody 16 = dt56_1 := dn_w dw56_0 16 rfl
theorem dw56_2 : dn cX6_runBody 32 = dt56_2 := dn_w dw56_1 16 rfl
theorem dw56_3 : dn cX6_runBody 48 = dt56_3 := dn_w dw56_2 16 rfl
theorem dw56_4 : dn cX6_runBody 64 = dt56_4 := dn_w dw56_3 16 rfl
theorem dw56_5 : dn cX6_runBody 80 = dt56_5 := dn_w dw56_4 16 rfl
theorem dw56_6 : dn cX6_runBody 96 = dt56_6 := dn_w dw56_5 16 rfl
theorem dw56_7 : dn cX6_runBody 112 = dt56_7 := dn_w dw56_6 16 rfl
theorem dw56_8 : dn cX6_runBody 128 = dt56_8 := dn_w dw56_7 16 rfl
theorem dw56_9 : dn cX6_runBody 144 = dt56_9 := dn_w dw56_8 16 rfl
theorem dw56_10 : dn cX6_runBody 160 = dt56_10 := dn_w dw56_9 16 rfl
theorem dw56_11 : dn cX6_runBody 176 = dt56_11 := dn_w dw56_10 16 rfl
theorem dw56_12 : dn cX6_runBody 192 = dt56_12 := dn_w dw56_11 16 rfl
theorem dw56_13 : dn cX6_runBody 208 = dt56_13 := dn_w dw56_12 16 rfl
theorem dw56_14 : dn cX6_runBody 224 = dt56_14 := dn_w dw56_13 16 rfl
theorem dw56_15 : dn cX6_runBody 240 = dt56_15 := dn_w dw56_14 16 rfl
theorem dw56_16 : dn cX6_runBody 256 = dt56_16 := dn_w dw56_15 16 rfl
theorem dw56_17 : dn cX6_runBody 272 = dt56_17 := dn_w dw56_16 16 rfl
theorem dw56_18 : dn cX6_runBody 288 = dt56_18 := dn_w dw56_17 16 rfl
theorem dw56_19 : dn cX6_runBody 304 = dt56_19 := dn_w dw56_18 16 rfl
theorem dw56_20 : dn cX6_runBody 320 = dt56_20 := dn_w dw56_19 16 rfl
theorem dw56_21 : dn cX6_runBody 336 = dt56_21 := dn_w dw56_20 16 rfl
theorem dw56_22 : dn cX6_runBody 352 = dt56_22 := dn_w dw56_21 16 rfl
theorem dw56_23 : dn cX6_runBody 368 = dt56_23 := dn_w dw56_22 16 rfl
theorem dw56_24 : dn cX6_runBody 384 = dt56_24 := dn_w dw56_23 16 rfl
theorem dw56_25 : dn cX6_runBody 400 = dt56_25 := dn_w dw56_24 16 rfl
theorem dw56_26 : dn cX6_runBody 416 = dt56_26 := dn_w dw56_25 16 rfl
theorem dw56_27 : dn cX6_runBody 432 = dt56_27 := dn_w dw56_26 16 rfl
theorem dw56_28 : dn cX6_runBody 448 = dt56_28 := dn_w dw56_27 16 rfl
theorem dX6_runBody_0 : DE cX6_runBody 0 (.iload_n 1) 1 := dop_27 (dn_w dw56_0 0 rfl)
theorem dX6_runBody_1 : decode cX6_runBody 1 = .ok (.tableswitch 449 10 61 #[223, 230, 244, 250, 449, 449, 449, 449, 449, 449, 267, 449, 449, 449, 449, 449, 449, 449, 449, 449, 285, 300, 449, 449, 449, 449, 449, 449, 449, 449, 328, 343, 449, 449, 449, 449, 449, 449, 449, 449, 371, 388, 449, 449, 449, 449, 449, 449, 449, 449, 406, 421], 223) := by decide +kernel
theorem dX6_runBody_224 : DE cX6_runBody 224 (.iload_n 2) 1 := dop_28 (dn_w dw56_14 0 rfl)
theorem dX6_runBody_225 : DE cX6_runBody 225 (.aload_n 0) 1 := dop_42 (dn_w dw56_14 1 rfl)
theorem dX6_runBody_226 : DE cX6_runBody 226 (.getfield 22) 3 := dop_180 (dn_w dw56_14 2 rfl) rfl
theorem dX6_runBody_229 : DE cX6_runBody 229 (.iadd) 1 := dop_96 (dn_w dw56_14 5 rfl)
theorem dX6_runBody_230 : DE cX6_runBody 230 (.ireturn) 1 := dop_172 (dn_w dw56_14 6 rfl)
theorem dX6_runBody_231 : DE cX6_runBody 231 (.aload_n 0) 1 := dop_42 (dn_w dw56_14 7 rfl)
theorem dX6_runBody_232 : DE cX6_runBody 232 (.iconst 0) 1 := dop_3 (dn_w dw56_14 8 rfl)
theorem dX6_runBody_233 : DE cX6_runBody 233 (.aload_n 0) 1 := dop_42 (dn_w dw56_14 9 rfl)
theorem dX6_runBody_234 : DE cX6_runBody 234 (.getfield 19) 3 := dop_180 (dn_w dw56_14 10 rfl) rfl
theorem dX6_runBody_237 : DE cX6_runBody 237 (.iload_n 2) 1 := dop_28 (dn_w dw56_14 13 rfl)
theorem dX6_runBody_238 : DE cX6_runBody 238 (.iload_n 3) 1 := dop_29 (dn_w dw56_14 14 rfl)
theorem dX6_runBody_239 : DE cX6_runBody 239 (.invokevirtual 32) 3 := dop_182 (dn_w dw56_14 15 rfl) rfl
theorem dX6_runBody_242 : DE cX6_runBody 242 (.iconst 2) 1 := dop_5 (dn_w dw56_15 2 rfl)
theorem dX6_runBody_243 : DE cX6_runBody 243 (.imul) 1 := dop_104 (dn_w dw56_15 3 rfl)
theorem dX6_runBody_244 : DE cX6_runBody 244 (.ireturn) 1 := dop_172 (dn_w dw56_15 4 rfl)
theorem dX6_runBody_245 : DE cX6_runBody 245 (.aload_n 0) 1 := dop_42 (dn_w dw56_15 5 rfl)
theorem dX6_runBody_246 : DE cX6_runBody 246 (.iload_n 2) 1 := dop_28 (dn_w dw56_15 6 rfl)
theorem dX6_runBody_247 : DE cX6_runBody 247 (.invokevirtual 54) 3 := dop_182 (dn_w dw56_15 7 rfl) rfl
theorem dX6_runBody_250 : DE cX6_runBody 250 (.ireturn) 1 := dop_172 (dn_w dw56_15 10 rfl)
theorem dX6_runBody_251 : DE cX6_runBody 251 (.aload_n 0) 1 := dop_42 (dn_w dw56_15 11 rfl)
theorem dX6_runBody_252 : DE cX6_runBody 252 (.iconst 1) 1 := dop_4 (dn_w dw56_15 12 rfl)
theorem dX6_runBody_253 : DE cX6_runBody 253 (.aload_n 0) 1 := dop_42 (dn_w dw56_15 13 rfl)
theorem dX6_runBody_254 : DE cX6_runBody 254 (.getfield 19) 3 := dop_180 (dn_w dw56_15 14 rfl) rfl
theorem dX6_runBody_257 : DE cX6_runBody 257 (.iload_n 2) 1 := dop_28 (dn_w dw56_16 1 rfl)
theorem dX6_runBody_258 : DE cX6_runBody 258 (.iload_n 3) 1 := dop_29 (dn_w dw56_16 2 rfl)
theorem dX6_runBody_259 : DE cX6_runBody 259 (.invokevirtual 32) 3 := dop_182 (dn_w dw56_16 3 rfl) rfl
theorem dX6_runBody_262 : DE cX6_runBody 262 (.aload_n 0) 1 := dop_42 (dn_w dw56_16 6 rfl)
theorem dX6_runBody_263 : DE cX6_runBody 263 (.getfield 25) 3 := dop_180 (dn_w dw56_16 7 rfl) rfl
theorem dX6_runBody_266 : DE cX6_runBody 266 (.ixor) 1 := dop_130 (dn_w dw56_16 10 rfl)
theorem dX6_runBody_267 : DE cX6_runBody 267 (.ireturn) 1 := dop_172 (dn_w dw56_16 11 rfl)
theorem dX6_runBody_268 : DE cX6_runBody 268 (.aload_n 0) 1 := dop_42 (dn_w dw56_16 12 rfl)
theorem dX6_runBody_269 : DE cX6_runBody 269 (.iconst 1) 1 := dop_4 (dn_w dw56_16 13 rfl)
theorem dX6_runBody_270 : DE cX6_runBody 270 (.getstatic 51) 3 := dop_178 (dn_w dw56_16 14 rfl) rfl
theorem dX6_runBody_273 : DE cX6_runBody 273 (.iconst 1) 1 := dop_4 (dn_w dw56_17 1 rfl)
theorem dX6_runBody_274 : DE cX6_runBody 274 (.iaload) 1 := dop_46 (dn_w dw56_17 2 rfl)
theorem dX6_runBody_275 : DE cX6_runBody 275 (.iload_n 2) 1 := dop_28 (dn_w dw56_17 3 rfl)
theorem dX6_runBody_276 : DE cX6_runBody 276 (.iload_n 3) 1 := dop_29 (dn_w dw56_17 4 rfl)
theorem dX6_runBody_277 : DE cX6_runBody 277 (.invokevirtual 32) 3 := dop_182 (dn_w dw56_17 5 rfl) rfl
theorem dX6_runBody_280 : DE cX6_runBody 280 (.aload_n 0) 1 := dop_42 (dn_w dw56_17 8 rfl)
theorem dX6_runBody_281 : DE cX6_runBody 281 (.getfield 25) 3 := dop_180 (dn_w dw56_17 9 rfl) rfl
theorem dX6_runBody_284 : DE cX6_runBody 284 (.isub) 1 := dop_100 (dn_w dw56_17 12 rfl)
theorem dX6_runBody_285 : DE cX6_runBody 285 (.ireturn) 1 := dop_172 (dn_w dw56_17 13 rfl)
theorem dX6_runBody_286 : DE cX6_runBody 286 (.aload_n 0) 1 := dop_42 (dn_w dw56_17 14 rfl)
theorem dX6_runBody_287 : DE cX6_runBody 287 (.iconst 0) 1 := dop_3 (dn_w dw56_17 15 rfl)
theorem dX6_runBody_288 : DE cX6_runBody 288 (.getstatic 51) 3 := dop_178 (dn_w dw56_18 0 rfl) rfl
theorem dX6_runBody_291 : DE cX6_runBody 291 (.iconst 2) 1 := dop_5 (dn_w dw56_18 3 rfl)
theorem dX6_runBody_292 : DE cX6_runBody 292 (.iaload) 1 := dop_46 (dn_w dw56_18 4 rfl)
theorem dX6_runBody_293 : DE cX6_runBody 293 (.iload_n 2) 1 := dop_28 (dn_w dw56_18 5 rfl)
theorem dX6_runBody_294 : DE cX6_runBody 294 (.iload_n 3) 1 := dop_29 (dn_w dw56_18 6 rfl)
theorem dX6_runBody_295 : DE cX6_runBody 295 (.invokevirtual 32) 3 := dop_182 (dn_w dw56_18 7 rfl) rfl
theorem dX6_runBody_298 : DE cX6_runBody 298 (.iconst 3) 1 := dop_6 (dn_w dw56_18 10 rfl)
theorem dX6_runBody_299 : DE cX6_runBody 299 (.imul) 1 := dop_104 (dn_w dw56_18 11 rfl)
theorem dX6_runBody_300 : DE cX6_runBody 300 (.ireturn) 1 := dop_172 (dn_w dw56_18 12 rfl)
theorem dX6_runBody_301 : DE cX6_runBody 301 (.aload_n 0) 1 := dop_42 (dn_w dw56_18 13 rfl)
theorem dX6_runBody_302 : DE cX6_runBody 302 (.iconst 3) 1 := dop_6 (dn_w dw56_18 14 rfl)
theorem dX6_runBody_303 : DE cX6_runBody 303 (.getstatic 51) 3 := dop_178 (dn_w dw56_18 15 rfl) rfl
theorem dX6_runBody_306 : DE cX6_runBody 306 (.iconst 2) 1 := dop_5 (dn_w dw56_19 2 rfl)
theorem dX6_runBody_307 : DE cX6_runBody 307 (.iaload) 1 := dop_46 (dn_w dw56_19 3 rfl)
theorem dX6_runBody_308 : DE cX6_runBody 308 (.iload_n 2) 1 := dop_28 (dn_w dw56_19 4 rfl)
theorem dX6_runBody_309 : DE cX6_runBody 309 (.iload_n 3) 1 := dop_29 (dn_w dw56_19 5 rfl)
theorem dX6_runBody_310 : DE cX6_runBody 310 (.invokevirtual 32) 3 := dop_182 (dn_w dw56_19 6 rfl) rfl
theorem dX6_runBody_313 : DE cX6_runBody 313 (.aload_n 0) 1 := dop_42 (dn_w dw56_19 9 rfl)
theorem dX6_runBody_314 : DE cX6_runBody 314 (.iconst 2) 1 := dop_5 (dn_w dw56_19 10 rfl)
theorem dX6_runBody_315 : DE cX6_runBody 315 (.aload_n 0) 1 := dop_42 (dn_w dw56_19 11 rfl)
theorem dX6_runBody_316 : DE cX6_runBody 316 (.getfield 19) 3 := dop_180 (dn_w dw56_19 12 rfl) rfl
theorem dX6_runBody_319 : DE cX6_runBody 319 (.aload_n 0) 1 := dop_42 (dn_w dw56_19 15 rfl)
theorem dX6_runBody_320 : DE cX6_runBody 320 (.getfield 22) 3 := dop_180 (dn_w dw56_20 0 rfl) rfl
theorem dX6_runBody_323 : DE cX6_runBody 323 (.iload_n 3) 1 := dop_29 (dn_w dw56_20 3 rfl)
theorem dX6_runBody_324 : DE cX6_runBody 324 (.invokevirtual 32) 3 := dop_182 (dn_w dw56_20 4 rfl) rfl
theorem dX6_runBody_327 : DE cX6_runBody 327 (.iadd) 1 := dop_96 (dn_w dw56_20 7 rfl)
theorem dX6_runBody_328 : DE cX6_runBody 328 (.ireturn) 1 := dop_172 (dn_w dw56_20 8 rfl)
theorem dX6_runBody_329 : DE cX6_runBody 329 (.iconst 0) 1 := dop_3 (dn_w dw56_20 9 rfl)
theorem dX6_runBody_330 : DE cX6_runBody 330 (.aload_n 0) 1 := dop_42 (dn_w dw56_20 10 rfl)
theorem dX6_runBody_331 : DE cX6_runBody 331 (.iconst 0) 1 := dop_3 (dn_w dw56_20 11 rfl)
theorem dX6_runBody_332 : DE cX6_runBody 332 (.getstatic 51) 3 := dop_178 (dn_w dw56_20 12 rfl) rfl
theorem dX6_runBody_335 : DE cX6_runBody 335 (.iconst 5) 1 := dop_8 (dn_w dw56_20 15 rfl)
theorem dX6_runBody_336 : DE cX6_runBody 336 (.iaload) 1 := dop_46 (dn_w dw56_21 0 rfl)
theorem dX6_runBody_337 : DE cX6_runBody 337 (.iload_n 2) 1 := dop_28 (dn_w dw56_21 1 rfl)
theorem dX6_runBody_338 : DE cX6_runBody 338 (.iload_n 3) 1 := dop_29 (dn_w dw56_21 2 rfl)
theorem dX6_runBody_339 : DE cX6_runBody 339 (.invokevirtual 32) 3 := dop_182 (dn_w dw56_21 3 rfl) rfl
theorem dX6_runBody_342 : DE cX6_runBody 342 (.isub) 1 := dop_100 (dn_w dw56_21 6 rfl)
theorem dX6_runBody_343 : DE cX6_runBody 343 (.ireturn) 1 := dop_172 (dn_w dw56_21 7 rfl)
theorem dX6_runBody_344 : DE cX6_runBody 344 (.aload_n 0) 1 := dop_42 (dn_w dw56_21 8 rfl)
theorem dX6_runBody_345 : DE cX6_runBody 345 (.iconst 1) 1 := dop_4 (dn_w dw56_21 9 rfl)
theorem dX6_runBody_346 : DE cX6_runBody 346 (.getstatic 51) 3 := dop_178 (dn_w dw56_21 10 rfl) rfl
theorem dX6_runBody_349 : DE cX6_runBody 349 (.iconst 5) 1 := dop_8 (dn_w dw56_21 13 rfl)
theorem dX6_runBody_350 : DE cX6_runBody 350 (.iaload) 1 := dop_46 (dn_w dw56_21 14 rfl)
theorem dX6_runBody_351 : DE cX6_runBody 351 (.iload_n 2) 1 := dop_28 (dn_w dw56_21 15 rfl)
theorem dX6_runBody_352 : DE cX6_runBody 352 (.iload_n 3) 1 := dop_29 (dn_w dw56_22 0 rfl)
theorem dX6_runBody_353 : DE cX6_runBody 353 (.invokevirtual 32) 3 := dop_182 (dn_w dw56_22 1 rfl) rfl
theorem dX6_runBody_356 : DE cX6_runBody 356 (.aload_n 0) 1 := dop_42 (dn_w dw56_22 4 rfl)
theorem dX6_runBody_357 : DE cX6_runBody 357 (.iconst 0) 1 := dop_3 (dn_w dw56_22 5 rfl)
theorem dX6_runBody_358 : DE cX6_runBody 358 (.aload_n 0) 1 := dop_42 (dn_w dw56_22 6 rfl)
theorem dX6_runBody_359 : DE cX6_runBody 359 (.getfield 19) 3 := dop_180 (dn_w dw56_22 7 rfl) rfl
theorem dX6_runBody_362 : DE cX6_runBody 362 (.aload_n 0) 1 := dop_42 (dn_w dw56_22 10 rfl)
theorem dX6_runBody_363 : DE cX6_runBody 363 (.getfield 22) 3 := dop_180 (dn_w dw56_22 11 rfl) rfl
theorem dX6_runBody_366 : DE cX6_runBody 366 (.iload_n 3) 1 := dop_29 (dn_w dw56_22 14 rfl)
theorem dX6_runBody_367 : DE cX6_runBody 367 (.invokevirtual 32) 3 := dop_182 (dn_w dw56_22 15 rfl) rfl
theorem dX6_runBody_370 : DE cX6_runBody 370 (.iadd) 1 := dop_96 (dn_w dw56_23 2 rfl)
theorem dX6_runBody_371 : DE cX6_runBody 371 (.ireturn) 1 := dop_172 (dn_w dw56_23 3 rfl)
theorem dX6_runBody_372 : DE cX6_runBody 372 (.aload_n 0) 1 := dop_42 (dn_w dw56_23 4 rfl)
theorem dX6_runBody_373 : DE cX6_runBody 373 (.iconst 2) 1 := dop_5 (dn_w dw56_23 5 rfl)
theorem dX6_runBody_374 : DE cX6_runBody 374 (.getstatic 51) 3 := dop_178 (dn_w dw56_23 6 rfl) rfl
theorem dX6_runBody_377 : DE cX6_runBody 377 (.iconst 4) 1 := dop_7 (dn_w dw56_23 9 rfl)
theorem dX6_runBody_378 : DE cX6_runBody 378 (.iaload) 1 := dop_46 (dn_w dw56_23 10 rfl)
theorem dX6_runBody_379 : DE cX6_runBody 379 (.iload_n 2) 1 := dop_28 (dn_w dw56_23 11 rfl)
theorem dX6_runBody_380 : DE cX6_runBody 380 (.iconst 2) 1 := dop_5 (dn_w dw56_23 12 rfl)
theorem dX6_runBody_381 : DE cX6_runBody 381 (.iadd) 1 := dop_96 (dn_w dw56_23 13 rfl)
theorem dX6_runBody_382 : DE cX6_runBody 382 (.iload_n 3) 1 := dop_29 (dn_w dw56_23 14 rfl)
theorem dX6_runBody_383 : DE cX6_runBody 383 (.invokevirtual 32) 3 := dop_182 (dn_w dw56_23 15 rfl) rfl
theorem dX6_runBody_386 : DE cX6_runBody 386 (.iconst 1) 1 := dop_4 (dn_w dw56_24 2 rfl)
theorem dX6_runBody_387 : DE cX6_runBody 387 (.ixor) 1 := dop_130 (dn_w dw56_24 3 rfl)
theorem dX6_runBody_388 : DE cX6_runBody 388 (.ireturn) 1 := dop_172 (dn_w dw56_24 4 rfl)
theorem dX6_runBody_389 : DE cX6_runBody 389 (.aload_n 0) 1 := dop_42 (dn_w dw56_24 5 rfl)
theorem dX6_runBody_390 : DE cX6_runBody 390 (.iconst 0) 1 := dop_3 (dn_w dw56_24 6 rfl)
theorem dX6_runBody_391 : DE cX6_runBody 391 (.getstatic 51) 3 := dop_178 (dn_w dw56_24 7 rfl) rfl
theorem dX6_runBody_394 : DE cX6_runBody 394 (.iconst 4) 1 := dop_7 (dn_w dw56_24 10 rfl)
theorem dX6_runBody_395 : DE cX6_runBody 395 (.iaload) 1 := dop_46 (dn_w dw56_24 11 rfl)
theorem dX6_runBody_396 : DE cX6_runBody 396 (.iload_n 2) 1 := dop_28 (dn_w dw56_24 12 rfl)
theorem dX6_runBody_397 : DE cX6_runBody 397 (.iload_n 3) 1 := dop_29 (dn_w dw56_24 13 rfl)
theorem dX6_runBody_398 : DE cX6_runBody 398 (.invokevirtual 32) 3 := dop_182 (dn_w dw56_24 14 rfl) rfl
theorem dX6_runBody_401 : DE cX6_runBody 401 (.aload_n 0) 1 := dop_42 (dn_w dw56_25 1 rfl)
theorem dX6_runBody_402 : DE cX6_runBody 402 (.getfield 22) 3 := dop_180 (dn_w dw56_25 2 rfl) rfl
theorem dX6_runBody_405 : DE cX6_runBody 405 (.isub) 1 := dop_100 (dn_w dw56_25 5 rfl)
theorem dX6_runBody_406 : DE cX6_runBody 406 (.ireturn) 1 := dop_172 (dn_w dw56_25 6 rfl)
theorem dX6_runBody_407 : DE cX6_runBody 407 (.aload_n 0) 1 := dop_42 (dn_w dw56_25 7 rfl)
theorem dX6_runBody_408 : DE cX6_runBody 408 (.iconst 3) 1 := dop_6 (dn_w dw56_25 8 rfl)
theorem dX6_runBody_409 : DE cX6_runBody 409 (.getstatic 51) 3 := dop_178 (dn_w dw56_25 9 rfl) rfl
theorem dX6_runBody_412 : DE cX6_runBody 412 (.iconst 3) 1 := dop_6 (dn_w dw56_25 12 rfl)
theorem dX6_runBody_413 : DE cX6_runBody 413 (.iaload) 1 := dop_46 (dn_w dw56_25 13 rfl)
theorem dX6_runBody_414 : DE cX6_runBody 414 (.iload_n 2) 1 := dop_28 (dn_w dw56_25 14 rfl)
theorem dX6_runBody_415 : DE cX6_runBody 415 (.iload_n 3) 1 := dop_29 (dn_w dw56_25 15 rfl)
theorem dX6_runBody_416 : DE cX6_runBody 416 (.invokevirtual 32) 3 := dop_182 (dn_w dw56_26 0 rfl) rfl
theorem dX6_runBody_419 : DE cX6_runBody 419 (.iconst 2) 1 := dop_5 (dn_w dw56_26 3 rfl)
theorem dX6_runBody_420 : DE cX6_runBody 420 (.imul) 1 := dop_104 (dn_w dw56_26 4 rfl)
theorem dX6_runBody_421 : DE cX6_runBody 421 (.ireturn) 1 := dop_172 (dn_w dw56_26 5 rfl)
theorem dX6_runBody_422 : DE cX6_runBody 422 (.aload_n 0) 1 := dop_42 (dn_w dw56_26 6 rfl)
theorem dX6_runBody_423 : DE cX6_runBody 423 (.iconst 2) 1 := dop_5 (dn_w dw56_26 7 rfl)
theorem dX6_runBody_424 : DE cX6_runBody 424 (.getstatic 51) 3 := dop_178 (dn_w dw56_26 8 rfl) rfl
theorem dX6_runBody_427 : DE cX6_runBody 427 (.iconst 3) 1 := dop_6 (dn_w dw56_26 11 rfl)
theorem dX6_runBody_428 : DE cX6_runBody 428 (.iaload) 1 := dop_46 (dn_w dw56_26 12 rfl)
theorem dX6_runBody_429 : DE cX6_runBody 429 (.iload_n 2) 1 := dop_28 (dn_w dw56_26 13 rfl)
theorem dX6_runBody_430 : DE cX6_runBody 430 (.iload_n 3) 1 := dop_29 (dn_w dw56_26 14 rfl)
theorem dX6_runBody_431 : DE cX6_runBody 431 (.invokevirtual 32) 3 := dop_182 (dn_w dw56_26 15 rfl) rfl
theorem dX6_runBody_434 : DE cX6_runBody 434 (.aload_n 0) 1 := dop_42 (dn_w dw56_27 2 rfl)
theorem dX6_runBody_435 : DE cX6_runBody 435 (.iconst 0) 1 := dop_3 (dn_w dw56_27 3 rfl)
theorem dX6_runBody_436 : DE cX6_runBody 436 (.aload_n 0) 1 := dop_42 (dn_w dw56_27 4 rfl)
theorem dX6_runBody_437 : DE cX6_runBody 437 (.getfield 19) 3 := dop_180 (dn_w dw56_27 5 rfl) rfl
theorem dX6_runBody_440 : DE cX6_runBody 440 (.aload_n 0) 1 := dop_42 (dn_w dw56_27 8 rfl)
theorem dX6_runBody_441 : DE cX6_runBody 441 (.getfield 25) 3 := dop_180 (dn_w dw56_27 9 rfl) rfl
theorem dX6_runBody_444 : DE cX6_runBody 444 (.iload_n 3) 1 := dop_29 (dn_w dw56_27 12 rfl)
theorem dX6_runBody_445 : DE cX6_runBody 445 (.invokevirtual 32) 3 := dop_182 (dn_w dw56_27 13 rfl) rfl
theorem dX6_runBody_448 : DE cX6_runBody 448 (.iadd) 1 := dop_96 (dn_w dw56_28 0 rfl)
theorem dX6_runBody_449 : DE cX6_runBody 449 (.ireturn) 1 := dop_172 (dn_w dw56_28 1 rfl)
theorem dX6_runBody_450 : DE cX6_runBody 450 (.iconst 0) 1 := dop_3 (dn_w dw56_28 2 rfl)
theorem dX6_runBody_451 : DE cX6_runBody 451 (.ireturn) 1 := dop_172 (dn_w dw56_28 3 rfl)
noncomputable def dt57_1 : List Nat := 181 :: 0 :: 28 :: 3 :: 172 :: 27 :: 28 :: 108 :: 172 :: []
noncomputable def dt57_0 : List Nat := 42 :: 180 :: 0 :: 25 :: 42 :: 180 :: 0 :: 22 :: 100 :: 61 :: 28 :: 154 :: 0 :: 10 :: 42 :: 4 :: dt57_1
theorem dw57_0 : dn cX6_shared 0 = dt57_0 := by decide +kernel
theorem dw57_1 : dn cX6_shared 16 = dt57_1 := dn_w dw57_0 16 rfl
theorem dX6_shared_0 : DE cX6_shared 0 (.aload_n 0) 1 := dop_42 (dn_w dw57_0 0 rfl)
theorem dX6_shared_1 : DE cX6_shared 1 (.getfield 25) 3 := dop_180 (dn_w dw57_0 1 rfl) rfl
theorem dX6_shared_4 : DE cX6_shared 4 (.aload_n 0) 1 := dop_42 (dn_w dw57_0 4 rfl)
theorem dX6_shared_5 : DE cX6_shared 5 (.getfield 22) 3 := dop_180 (dn_w dw57_0 5 rfl) rfl
theorem dX6_shared_8 : DE cX6_shared 8 (.isub) 1 := dop_100 (dn_w dw57_0 8 rfl)
theorem dX6_shared_9 : DE cX6_shared 9 (.istore_n 2) 1 := dop_61 (dn_w dw57_0 9 rfl)
theorem dX6_shared_10 : DE cX6_shared 10 (.iload_n 2) 1 := dop_28 (dn_w dw57_0 10 rfl)
theorem dX6_shared_11 : DE cX6_shared 11 (.ifCond .ne 10) 3 := dop_154 (dn_w dw57_0 11 rfl) rfl
theorem dX6_shared_14 : DE cX6_shared 14 (.aload_n 0) 1 := dop_42 (dn_w dw57_0 14 rfl)
theorem dX6_shared_15 : DE cX6_shared 15 (.iconst 1) 1 := dop_4 (dn_w dw57_0 15 rfl)
theorem dX6_shared_16 : DE cX6_shared 16 (.putfield 28) 3 := dop_181 (dn_w dw57_1 0 rfl) rfl
theorem dX6_shared_19 : DE cX6_shared 19 (.iconst 0) 1 := dop_3 (dn_w dw57_1 3 rfl)
theorem dX6_shared_20 : DE cX6_shared 20 (.ireturn) 1 := dop_172 (dn_w dw57_1 4 rfl)
theorem dX6_shared_21 : DE cX6_shared 21 (.iload_n 1) 1 := dop_27 (dn_w dw57_1 5 rfl)
theorem dX6_shared_22 : DE cX6_shared 22 (.iload_n 2) 1 := dop_28 (dn_w dw57_1 6 rfl)
theorem dX6_shared_23 : DE cX6_shared 23 (.idiv) 1 := dop_108 (dn_w dw57_1 7 rfl)
theorem dX6_shared_24 : DE cX6_shared 24 (.ireturn) 1 := dop_172 (dn_w dw57_1 8 rfl)
noncomputable def dt58_0 : List Nat := 42 :: 183 :: 0 :: 3 :: 42 :: 187 :: 0 :: 9 :: 89 :: 183 :: 0 :: 11 :: 181 :: 0 :: 12 :: 177 :: []
theorem dw58_0 : dn cX7_init 0 = dt58_0 := by decide +kernel
theorem dX7_init_0 : DE cX7_init 0 (.aload_n 0) 1 := dop_42 (dn_w dw58_0 0 rfl)
theorem dX7_init_1 : DE cX7_init 1 (.invokespecial 3) 3 := dop_183 (dn_w dw58_0 1 rfl) rfl
theorem dX7_init_4 : DE cX7_init 4 (.aload_n 0) 1 := dop_42 (dn_w dw58_0 4 rfl)
theorem dX7_init_5 : DE cX7_init 5 (.new 9) 3 := dop_187 (dn_w dw58_0 5 rfl) rfl
theorem dX7_init_8 : DE cX7_init 8 (.dup) 1 := dop_89 (dn_w dw58_0 8 rfl)
theorem dX7_init_9 : DE cX7_init 9 (.invokespecial 11) 3 := dop_183 (dn_w dw58_0 9 rfl) rfl
theorem dX7_init_12 : DE cX7_init 12 (.putfield 12) 3 := dop_181 (dn_w dw58_0 12 rfl) rfl
theorem dX7_init_15 : DE cX7_init 15 (.return_) 1 := dop_177 (dn_w dw58_0 15 rfl)
noncomputable def dt59_5 : List Nat := 132 :: 5 :: 1 :: 167 :: 255 :: 222 :: 21 :: 4 :: 172 :: []
noncomputable def dt59_4 : List Nat := 24 :: 21 :: 4 :: 42 :: 180 :: 0 :: 12 :: 182 :: 0 :: 30 :: 184 :: 0 :: 34 :: 96 :: 54 :: 4 :: dt59_5
noncomputable def dt59_3 : List Nat := 5 :: 21 :: 5 :: 29 :: 162 :: 0 :: 34 :: 42 :: 180 :: 0 :: 12 :: 182 :: 0 :: 26 :: 154 :: 0 :: dt59_4
noncomputable def dt59_2 : List Nat := 4 :: 182 :: 0 :: 22 :: 87 :: 132 :: 4 :: 1 :: 167 :: 255 :: 227 :: 3 :: 54 :: 4 :: 3 :: 54 :: dt59_3
noncomputable def dt59_1 : List Nat := 0 :: 28 :: 28 :: 21 :: 4 :: 122 :: 4 :: 126 :: 153 :: 0 :: 13 :: 42 :: 180 :: 0 :: 12 :: 21 :: dt59_2
noncomputable def dt59_0 : List Nat := 42 :: 180 :: 0 :: 12 :: 43 :: 182 :: 0 :: 18 :: 3 :: 54 :: 4 :: 21 :: 4 :: 16 :: 6 :: 162 :: dt59_1
theorem dw59_0 : dn cX7_thereWith 0 = dt59_0 := by decide +kernel
theorem dw59_1 : dn cX7_thereWith 16 = dt59_1 := dn_w dw59_0 16 rfl
theorem dw59_2 : dn cX7_thereWith 32 = dt59_2 := dn_w dw59_1 16 rfl
theorem dw59_3 : dn cX7_thereWith 48 = dt59_3 := dn_w dw59_2 16 rfl
theorem dw59_4 : dn cX7_thereWith 64 = dt59_4 := dn_w dw59_3 16 rfl
theorem dw59_5 : dn cX7_thereWith 80 = dt59_5 := dn_w dw59_4 16 rfl
theorem dX7_thereWith_0 : DE cX7_thereWith 0 (.aload_n 0) 1 := dop_42 (dn_w dw59_0 0 rfl)
theorem dX7_thereWith_1 : DE cX7_thereWith 1 (.getfield 12) 3 := dop_180 (dn_w dw59_0 1 rfl) rfl
theorem dX7_thereWith_4 : DE cX7_thereWith 4 (.aload_n 1) 1 := dop_43 (dn_w dw59_0 4 rfl)
theorem dX7_thereWith_5 : DE cX7_thereWith 5 (.invokevirtual 18) 3 := dop_182 (dn_w dw59_0 5 rfl) rfl
theorem dX7_thereWith_8 : DE cX7_thereWith 8 (.iconst 0) 1 := dop_3 (dn_w dw59_0 8 rfl)
theorem dX7_thereWith_9 : DE cX7_thereWith 9 (.istore 4) 2 := dop_54 (dn_w dw59_0 9 rfl)
theorem dX7_thereWith_11 : DE cX7_thereWith 11 (.iload 4) 2 := dop_21 (dn_w dw59_0 11 rfl)
theorem dX7_thereWith_13 : DE cX7_thereWith 13 (.bipush 6) 2 := dop_16 (dn_w dw59_0 13 rfl) rfl
theorem dX7_thereWith_15 : DE cX7_thereWith 15 (.if_icmp .ge 28) 3 := dop_162 (dn_w dw59_0 15 rfl) rfl
theorem dX7_thereWith_18 : DE cX7_thereWith 18 (.iload_n 2) 1 := dop_28 (dn_w dw59_1 2 rfl)
theorem dX7_thereWith_19 : DE cX7_thereWith 19 (.iload 4) 2 := dop_21 (dn_w dw59_1 3 rfl)
theorem dX7_thereWith_21 : DE cX7_thereWith 21 (.ishr) 1 := dop_122 (dn_w dw59_1 5 rfl)
theorem dX7_thereWith_22 : DE cX7_thereWith 22 (.iconst 1) 1 := dop_4 (dn_w dw59_1 6 rfl)
theorem dX7_thereWith_23 : DE cX7_thereWith 23 (.iand) 1 := dop_126 (dn_w dw59_1 7 rfl)
theorem dX7_thereWith_24 : DE cX7_thereWith 24 (.ifCond .eq 13) 3 := dop_153 (dn_w dw59_1 8 rfl) rfl
theorem dX7_thereWith_27 : DE cX7_thereWith 27 (.aload_n 0) 1 := dop_42 (dn_w dw59_1 11 rfl)
theorem dX7_thereWith_28 : DE cX7_thereWith 28 (.getfield 12) 3 := dop_180 (dn_w dw59_1 12 rfl) rfl
theorem dX7_thereWith_31 : DE cX7_thereWith 31 (.iload 4) 2 := dop_21 (dn_w dw59_1 15 rfl)
theorem dX7_thereWith_33 : DE cX7_thereWith 33 (.invokevirtual 22) 3 := dop_182 (dn_w dw59_2 1 rfl) rfl
theorem dX7_thereWith_36 : DE cX7_thereWith 36 (.pop) 1 := dop_87 (dn_w dw59_2 4 rfl)
theorem dX7_thereWith_37 : DE cX7_thereWith 37 (.iinc 4 1) 3 := dop_132 (dn_w dw59_2 5 rfl) rfl
theorem dX7_thereWith_40 : DE cX7_thereWith 40 (.goto (-29)) 3 := dop_167 (dn_w dw59_2 8 rfl) rfl
theorem dX7_thereWith_43 : DE cX7_thereWith 43 (.iconst 0) 1 := dop_3 (dn_w dw59_2 11 rfl)
theorem dX7_thereWith_44 : DE cX7_thereWith 44 (.istore 4) 2 := dop_54 (dn_w dw59_2 12 rfl)
theorem dX7_thereWith_46 : DE cX7_thereWith 46 (.iconst 0) 1 := dop_3 (dn_w dw59_2 14 rfl)
theorem dX7_thereWith_47 : DE cX7_thereWith 47 (.istore 5) 2 := dop_54 (dn_w dw59_2 15 rfl)
theorem dX7_thereWith_49 : DE cX7_thereWith 49 (.iload 5) 2 := dop_21 (dn_w dw59_3 1 rfl)
theorem dX7_thereWith_51 : DE cX7_thereWith 51 (.iload_n 3) 1 := dop_29 (dn_w dw59_3 3 rfl)
theorem dX7_thereWith_52 : DE cX7_thereWith 52 (.if_icmp .ge 34) 3 := dop_162 (dn_w dw59_3 4 rfl) rfl
theorem dX7_thereWith_55 : DE cX7_thereWith 55 (.aload_n 0) 1 := dop_42 (dn_w dw59_3 7 rfl)
theorem dX7_thereWith_56 : DE cX7_thereWith 56 (.getfield 12) 3 := dop_180 (dn_w dw59_3 8 rfl) rfl
theorem dX7_thereWith_59 : DE cX7_thereWith 59 (.invokevirtual 26) 3 := dop_182 (dn_w dw59_3 11 rfl) rfl
theorem dX7_thereWith_62 : DE cX7_thereWith 62 (.ifCond .ne 24) 3 := dop_154 (dn_w dw59_3 14 rfl) rfl
theorem dX7_thereWith_65 : DE cX7_thereWith 65 (.iload 4) 2 := dop_21 (dn_w dw59_4 1 rfl)
theorem dX7_thereWith_67 : DE cX7_thereWith 67 (.aload_n 0) 1 := dop_42 (dn_w dw59_4 3 rfl)
theorem dX7_thereWith_68 : DE cX7_thereWith 68 (.getfield 12) 3 := dop_180 (dn_w dw59_4 4 rfl) rfl
theorem dX7_thereWith_71 : DE cX7_thereWith 71 (.invokevirtual 30) 3 := dop_182 (dn_w dw59_4 7 rfl) rfl
theorem dX7_thereWith_74 : DE cX7_thereWith 74 (.invokestatic 34) 3 := dop_184 (dn_w dw59_4 10 rfl) rfl
theorem dX7_thereWith_77 : DE cX7_thereWith 77 (.iadd) 1 := dop_96 (dn_w dw59_4 13 rfl)
theorem dX7_thereWith_78 : DE cX7_thereWith 78 (.istore 4) 2 := dop_54 (dn_w dw59_4 14 rfl)
theorem dX7_thereWith_80 : DE cX7_thereWith 80 (.iinc 5 1) 3 := dop_132 (dn_w dw59_5 0 rfl) rfl
theorem dX7_thereWith_83 : DE cX7_thereWith 83 (.goto (-34)) 3 := dop_167 (dn_w dw59_5 3 rfl) rfl
theorem dX7_thereWith_86 : DE cX7_thereWith 86 (.iload 4) 2 := dop_21 (dn_w dw59_5 6 rfl)
theorem dX7_thereWith_88 : DE cX7_thereWith 88 (.ireturn) 1 := dop_172 (dn_w dw59_5 8 rfl)
noncomputable def dt60_5 : List Nat := 255 :: 192 :: 21 :: 4 :: 172 :: []
noncomputable def dt60_4 : List Nat := 34 :: 162 :: 0 :: 11 :: 21 :: 6 :: 54 :: 4 :: 21 :: 7 :: 54 :: 5 :: 132 :: 6 :: 1 :: 167 :: dt60_5
noncomputable def dt60_3 : List Nat := 21 :: 7 :: 21 :: 5 :: 160 :: 0 :: 24 :: 21 :: 6 :: 184 :: 0 :: 34 :: 21 :: 4 :: 184 :: 0 :: dt60_4
noncomputable def dt60_2 : List Nat := 43 :: 21 :: 6 :: 29 :: 182 :: 0 :: 39 :: 54 :: 7 :: 21 :: 7 :: 21 :: 5 :: 163 :: 0 :: 23 :: dt60_3
noncomputable def dt60_1 : List Nat := 6 :: 16 :: 64 :: 162 :: 0 :: 63 :: 21 :: 6 :: 184 :: 0 :: 34 :: 28 :: 163 :: 0 :: 48 :: 42 :: dt60_2
noncomputable def dt60_0 : List Nat := 3 :: 54 :: 4 :: 42 :: 43 :: 3 :: 29 :: 182 :: 0 :: 39 :: 54 :: 5 :: 4 :: 54 :: 6 :: 21 :: dt60_1
theorem dw60_0 : dn cX7_bestHouses 0 = dt60_0 := by decide +kernel
theorem dw60_1 : dn cX7_bestHouses 16 = dt60_1 := dn_w dw60_0 16 rfl
theorem dw60_2 : dn cX7_bestHouses 32 = dt60_2 := dn_w dw60_1 16 rfl
theorem dw60_3 : dn cX7_bestHouses 48 = dt60_3 := dn_w dw60_2 16 rfl
theorem dw60_4 : dn cX7_bestHouses 64 = dt60_4 := dn_w dw60_3 16 rfl
theorem dw60_5 : dn cX7_bestHouses 80 = dt60_5 := dn_w dw60_4 16 rfl
theorem dX7_bestHouses_0 : DE cX7_bestHouses 0 (.iconst 0) 1 := dop_3 (dn_w dw60_0 0 rfl)
theorem dX7_bestHouses_1 : DE cX7_bestHouses 1 (.istore 4) 2 := dop_54 (dn_w dw60_0 1 rfl)
theorem dX7_bestHouses_3 : DE cX7_bestHouses 3 (.aload_n 0) 1 := dop_42 (dn_w dw60_0 3 rfl)
theorem dX7_bestHouses_4 : DE cX7_bestHouses 4 (.aload_n 1) 1 := dop_43 (dn_w dw60_0 4 rfl)
theorem dX7_bestHouses_5 : DE cX7_bestHouses 5 (.iconst 0) 1 := dop_3 (dn_w dw60_0 5 rfl)
theorem dX7_bestHouses_6 : DE cX7_bestHouses 6 (.iload_n 3) 1 := dop_29 (dn_w dw60_0 6 rfl)
theorem dX7_bestHouses_7 : DE cX7_bestHouses 7 (.invokevirtual 39) 3 := dop_182 (dn_w dw60_0 7 rfl) rfl
theorem dX7_bestHouses_10 : DE cX7_bestHouses 10 (.istore 5) 2 := dop_54 (dn_w dw60_0 10 rfl)
theorem dX7_bestHouses_12 : DE cX7_bestHouses 12 (.iconst 1) 1 := dop_4 (dn_w dw60_0 12 rfl)
theorem dX7_bestHouses_13 : DE cX7_bestHouses 13 (.istore 6) 2 := dop_54 (dn_w dw60_0 13 rfl)
theorem dX7_bestHouses_15 : DE cX7_bestHouses 15 (.iload 6) 2 := dop_21 (dn_w dw60_0 15 rfl)
theorem dX7_bestHouses_17 : DE cX7_bestHouses 17 (.bipush 64) 2 := dop_16 (dn_w dw60_1 1 rfl) rfl
theorem dX7_bestHouses_19 : DE cX7_bestHouses 19 (.if_icmp .ge 63) 3 := dop_162 (dn_w dw60_1 3 rfl) rfl
theorem dX7_bestHouses_22 : DE cX7_bestHouses 22 (.iload 6) 2 := dop_21 (dn_w dw60_1 6 rfl)
theorem dX7_bestHouses_24 : DE cX7_bestHouses 24 (.invokestatic 34) 3 := dop_184 (dn_w dw60_1 8 rfl) rfl
theorem dX7_bestHouses_27 : DE cX7_bestHouses 27 (.iload_n 2) 1 := dop_28 (dn_w dw60_1 11 rfl)
theorem dX7_bestHouses_28 : DE cX7_bestHouses 28 (.if_icmp .gt 48) 3 := dop_163 (dn_w dw60_1 12 rfl) rfl
theorem dX7_bestHouses_31 : DE cX7_bestHouses 31 (.aload_n 0) 1 := dop_42 (dn_w dw60_1 15 rfl)
theorem dX7_bestHouses_32 : DE cX7_bestHouses 32 (.aload_n 1) 1 := dop_43 (dn_w dw60_2 0 rfl)
theorem dX7_bestHouses_33 : DE cX7_bestHouses 33 (.iload 6) 2 := dop_21 (dn_w dw60_2 1 rfl)
theorem dX7_bestHouses_35 : DE cX7_bestHouses 35 (.iload_n 3) 1 := dop_29 (dn_w dw60_2 3 rfl)
theorem dX7_bestHouses_36 : DE cX7_bestHouses 36 (.invokevirtual 39) 3 := dop_182 (dn_w dw60_2 4 rfl) rfl
theorem dX7_bestHouses_39 : DE cX7_bestHouses 39 (.istore 7) 2 := dop_54 (dn_w dw60_2 7 rfl)
theorem dX7_bestHouses_41 : DE cX7_bestHouses 41 (.iload 7) 2 := dop_21 (dn_w dw60_2 9 rfl)
theorem dX7_bestHouses_43 : DE cX7_bestHouses 43 (.iload 5) 2 := dop_21 (dn_w dw60_2 11 rfl)
theorem dX7_bestHouses_45 : DE cX7_bestHouses 45 (.if_icmp .gt 23) 3 := dop_163 (dn_w dw60_2 13 rfl) rfl
theorem dX7_bestHouses_48 : DE cX7_bestHouses 48 (.iload 7) 2 := dop_21 (dn_w dw60_3 0 rfl)
theorem dX7_bestHouses_50 : DE cX7_bestHouses 50 (.iload 5) 2 := dop_21 (dn_w dw60_3 2 rfl)
theorem dX7_bestHouses_52 : DE cX7_bestHouses 52 (.if_icmp .ne 24) 3 := dop_160 (dn_w dw60_3 4 rfl) rfl
theorem dX7_bestHouses_55 : DE cX7_bestHouses 55 (.iload 6) 2 := dop_21 (dn_w dw60_3 7 rfl)
theorem dX7_bestHouses_57 : DE cX7_bestHouses 57 (.invokestatic 34) 3 := dop_184 (dn_w dw60_3 9 rfl) rfl
theorem dX7_bestHouses_60 : DE cX7_bestHouses 60 (.iload 4) 2 := dop_21 (dn_w dw60_3 12 rfl)
theorem dX7_bestHouses_62 : DE cX7_bestHouses 62 (.invokestatic 34) 3 := dop_184 (dn_w dw60_3 14 rfl) rfl
theorem dX7_bestHouses_65 : DE cX7_bestHouses 65 (.if_icmp .ge 11) 3 := dop_162 (dn_w dw60_4 1 rfl) rfl
theorem dX7_bestHouses_68 : DE cX7_bestHouses 68 (.iload 6) 2 := dop_21 (dn_w dw60_4 4 rfl)
theorem dX7_bestHouses_70 : DE cX7_bestHouses 70 (.istore 4) 2 := dop_54 (dn_w dw60_4 6 rfl)
theorem dX7_bestHouses_72 : DE cX7_bestHouses 72 (.iload 7) 2 := dop_21 (dn_w dw60_4 8 rfl)
theorem dX7_bestHouses_74 : DE cX7_bestHouses 74 (.istore 5) 2 := dop_54 (dn_w dw60_4 10 rfl)
theorem dX7_bestHouses_76 : DE cX7_bestHouses 76 (.iinc 6 1) 3 := dop_132 (dn_w dw60_4 12 rfl) rfl
theorem dX7_bestHouses_79 : DE cX7_bestHouses 79 (.goto (-64)) 3 := dop_167 (dn_w dw60_4 15 rfl) rfl
theorem dX7_bestHouses_82 : DE cX7_bestHouses 82 (.iload 4) 2 := dop_21 (dn_w dw60_5 2 rfl)
theorem dX7_bestHouses_84 : DE cX7_bestHouses 84 (.ireturn) 1 := dop_172 (dn_w dw60_5 4 rfl)
noncomputable def dt61_3 : List Nat := 180 :: 0 :: 12 :: 182 :: 0 :: 30 :: 87 :: 132 :: 3 :: 1 :: 167 :: 255 :: 208 :: 16 :: 253 :: 172 :: []
noncomputable def dt61_2 : List Nat := 4 :: 46 :: 161 :: 0 :: 13 :: 42 :: 180 :: 0 :: 12 :: 180 :: 0 :: 50 :: 4 :: 100 :: 172 :: 42 :: dt61_3
noncomputable def dt61_1 : List Nat := 42 :: 180 :: 0 :: 12 :: 180 :: 0 :: 43 :: 28 :: 46 :: 42 :: 180 :: 0 :: 12 :: 180 :: 0 :: 47 :: dt61_2
noncomputable def dt61_0 : List Nat := 42 :: 180 :: 0 :: 12 :: 43 :: 182 :: 0 :: 18 :: 3 :: 62 :: 29 :: 16 :: 40 :: 163 :: 0 :: 48 :: dt61_1
theorem dw61_0 : dn cX7_dayForGood 0 = dt61_0 := by decide +kernel
theorem dw61_1 : dn cX7_dayForGood 16 = dt61_1 := dn_w dw61_0 16 rfl
theorem dw61_2 : dn cX7_dayForGood 32 = dt61_2 := dn_w dw61_1 16 rfl
theorem dw61_3 : dn cX7_dayForGood 48 = dt61_3 := dn_w dw61_2 16 rfl
theorem dX7_dayForGood_0 : DE cX7_dayForGood 0 (.aload_n 0) 1 := dop_42 (dn_w dw61_0 0 rfl)
theorem dX7_dayForGood_1 : DE cX7_dayForGood 1 (.getfield 12) 3 := dop_180 (dn_w dw61_0 1 rfl) rfl
theorem dX7_dayForGood_4 : DE cX7_dayForGood 4 (.aload_n 1) 1 := dop_43 (dn_w dw61_0 4 rfl)
theorem dX7_dayForGood_5 : DE cX7_dayForGood 5 (.invokevirtual 18) 3 := dop_182 (dn_w dw61_0 5 rfl) rfl
theorem dX7_dayForGood_8 : DE cX7_dayForGood 8 (.iconst 0) 1 := dop_3 (dn_w dw61_0 8 rfl)
theorem dX7_dayForGood_9 : DE cX7_dayForGood 9 (.istore_n 3) 1 := dop_62 (dn_w dw61_0 9 rfl)
theorem dX7_dayForGood_10 : DE cX7_dayForGood 10 (.iload_n 3) 1 := dop_29 (dn_w dw61_0 10 rfl)
theorem dX7_dayForGood_11 : DE cX7_dayForGood 11 (.bipush 40) 2 := dop_16 (dn_w dw61_0 11 rfl) rfl
theorem dX7_dayForGood_13 : DE cX7_dayForGood 13 (.if_icmp .gt 48) 3 := dop_163 (dn_w dw61_0 13 rfl) rfl
theorem dX7_dayForGood_16 : DE cX7_dayForGood 16 (.aload_n 0) 1 := dop_42 (dn_w dw61_1 0 rfl)
theorem dX7_dayForGood_17 : DE cX7_dayForGood 17 (.getfield 12) 3 := dop_180 (dn_w dw61_1 1 rfl) rfl
theorem dX7_dayForGood_20 : DE cX7_dayForGood 20 (.getfield 43) 3 := dop_180 (dn_w dw61_1 4 rfl) rfl
theorem dX7_dayForGood_23 : DE cX7_dayForGood 23 (.iload_n 2) 1 := dop_28 (dn_w dw61_1 7 rfl)
theorem dX7_dayForGood_24 : DE cX7_dayForGood 24 (.iaload) 1 := dop_46 (dn_w dw61_1 8 rfl)
theorem dX7_dayForGood_25 : DE cX7_dayForGood 25 (.aload_n 0) 1 := dop_42 (dn_w dw61_1 9 rfl)
theorem dX7_dayForGood_26 : DE cX7_dayForGood 26 (.getfield 12) 3 := dop_180 (dn_w dw61_1 10 rfl) rfl
theorem dX7_dayForGood_29 : DE cX7_dayForGood 29 (.getfield 47) 3 := dop_180 (dn_w dw61_1 13 rfl) rfl
theorem dX7_dayForGood_32 : DE cX7_dayForGood 32 (.iconst 1) 1 := dop_4 (dn_w dw61_2 0 rfl)
theorem dX7_dayForGood_33 : DE cX7_dayForGood 33 (.iaload) 1 := dop_46 (dn_w dw61_2 1 rfl)
theorem dX7_dayForGood_34 : DE cX7_dayForGood 34 (.if_icmp .lt 13) 3 := dop_161 (dn_w dw61_2 2 rfl) rfl
theorem dX7_dayForGood_37 : DE cX7_dayForGood 37 (.aload_n 0) 1 := dop_42 (dn_w dw61_2 5 rfl)
theorem dX7_dayForGood_38 : DE cX7_dayForGood 38 (.getfield 12) 3 := dop_180 (dn_w dw61_2 6 rfl) rfl
theorem dX7_dayForGood_41 : DE cX7_dayForGood 41 (.getfield 50) 3 := dop_180 (dn_w dw61_2 9 rfl) rfl
theorem dX7_dayForGood_44 : DE cX7_dayForGood 44 (.iconst 1) 1 := dop_4 (dn_w dw61_2 12 rfl)
theorem dX7_dayForGood_45 : DE cX7_dayForGood 45 (.isub) 1 := dop_100 (dn_w dw61_2 13 rfl)
theorem dX7_dayForGood_46 : DE cX7_dayForGood 46 (.ireturn) 1 := dop_172 (dn_w dw61_2 14 rfl)
theorem dX7_dayForGood_47 : DE cX7_dayForGood 47 (.aload_n 0) 1 := dop_42 (dn_w dw61_2 15 rfl)
theorem dX7_dayForGood_48 : DE cX7_dayForGood 48 (.getfield 12) 3 := dop_180 (dn_w dw61_3 0 rfl) rfl
theorem dX7_dayForGood_51 : DE cX7_dayForGood 51 (.invokevirtual 30) 3 := dop_182 (dn_w dw61_3 3 rfl) rfl
theorem dX7_dayForGood_54 : DE cX7_dayForGood 54 (.pop) 1 := dop_87 (dn_w dw61_3 6 rfl)
theorem dX7_dayForGood_55 : DE cX7_dayForGood 55 (.iinc 3 1) 3 := dop_132 (dn_w dw61_3 7 rfl) rfl
theorem dX7_dayForGood_58 : DE cX7_dayForGood 58 (.goto (-48)) 3 := dop_167 (dn_w dw61_3 10 rfl) rfl
theorem dX7_dayForGood_61 : DE cX7_dayForGood 61 (.bipush (-3)) 2 := dop_16 (dn_w dw61_3 13 rfl) rfl
theorem dX7_dayForGood_63 : DE cX7_dayForGood 63 (.ireturn) 1 := dop_172 (dn_w dw61_3 15 rfl)
noncomputable def dt62_3 : List Nat := 1 :: 167 :: 255 :: 221 :: 21 :: 4 :: 172 :: []
noncomputable def dt62_2 : List Nat := 0 :: 12 :: 182 :: 0 :: 30 :: 28 :: 126 :: 28 :: 160 :: 0 :: 6 :: 132 :: 4 :: 1 :: 132 :: 5 :: dt62_3
noncomputable def dt62_1 : List Nat := 29 :: 162 :: 0 :: 35 :: 42 :: 180 :: 0 :: 12 :: 182 :: 0 :: 26 :: 154 :: 0 :: 25 :: 42 :: 180 :: dt62_2
noncomputable def dt62_0 : List Nat := 42 :: 180 :: 0 :: 12 :: 43 :: 182 :: 0 :: 18 :: 3 :: 54 :: 4 :: 3 :: 54 :: 5 :: 21 :: 5 :: dt62_1
theorem dw62_0 : dn cX7_meetings 0 = dt62_0 := by decide +kernel
theorem dw62_1 : dn cX7_meetings 16 = dt62_1 := dn_w dw62_0 16 rfl
theorem dw62_2 : dn cX7_meetings 32 = dt62_2 := dn_w dw62_1 16 rfl
theorem dw62_3 : dn cX7_meetings 48 = dt62_3 := dn_w dw62_2 16 rfl
theorem dX7_meetings_0 : DE cX7_meetings 0 (.aload_n 0) 1 := dop_42 (dn_w dw62_0 0 rfl)
theorem dX7_meetings_1 : DE cX7_meetings 1 (.getfield 12) 3 := dop_180 (dn_w dw62_0 1 rfl) rfl
theorem dX7_meetings_4 : DE cX7_meetings 4 (.aload_n 1) 1 := dop_43 (dn_w dw62_0 4 rfl)
theorem dX7_meetings_5 : DE cX7_meetings 5 (.invokevirtual 18) 3 := dop_182 (dn_w dw62_0 5 rfl) rfl
theorem dX7_meetings_8 : DE cX7_meetings 8 (.iconst 0) 1 := dop_3 (dn_w dw62_0 8 rfl)
theorem dX7_meetings_9 : DE cX7_meetings 9 (.istore 4) 2 := dop_54 (dn_w dw62_0 9 rfl)
theorem dX7_meetings_11 : DE cX7_meetings 11 (.iconst 0) 1 := dop_3 (dn_w dw62_0 11 rfl)
theorem dX7_meetings_12 : DE cX7_meetings 12 (.istore 5) 2 := dop_54 (dn_w dw62_0 12 rfl)
theorem dX7_meetings_14 : DE cX7_meetings 14 (.iload 5) 2 := dop_21 (dn_w dw62_0 14 rfl)
theorem dX7_meetings_16 : DE cX7_meetings 16 (.iload_n 3) 1 := dop_29 (dn_w dw62_1 0 rfl)
theorem dX7_meetings_17 : DE cX7_meetings 17 (.if_icmp .ge 35) 3 := dop_162 (dn_w dw62_1 1 rfl) rfl
theorem dX7_meetings_20 : DE cX7_meetings 20 (.aload_n 0) 1 := dop_42 (dn_w dw62_1 4 rfl)
theorem dX7_meetings_21 : DE cX7_meetings 21 (.getfield 12) 3 := dop_180 (dn_w dw62_1 5 rfl) rfl
theorem dX7_meetings_24 : DE cX7_meetings 24 (.invokevirtual 26) 3 := dop_182 (dn_w dw62_1 8 rfl) rfl
theorem dX7_meetings_27 : DE cX7_meetings 27 (.ifCond .ne 25) 3 := dop_154 (dn_w dw62_1 11 rfl) rfl
theorem dX7_meetings_30 : DE cX7_meetings 30 (.aload_n 0) 1 := dop_42 (dn_w dw62_1 14 rfl)
theorem dX7_meetings_31 : DE cX7_meetings 31 (.getfield 12) 3 := dop_180 (dn_w dw62_1 15 rfl) rfl
theorem dX7_meetings_34 : DE cX7_meetings 34 (.invokevirtual 30) 3 := dop_182 (dn_w dw62_2 2 rfl) rfl
theorem dX7_meetings_37 : DE cX7_meetings 37 (.iload_n 2) 1 := dop_28 (dn_w dw62_2 5 rfl)
theorem dX7_meetings_38 : DE cX7_meetings 38 (.iand) 1 := dop_126 (dn_w dw62_2 6 rfl)
theorem dX7_meetings_39 : DE cX7_meetings 39 (.iload_n 2) 1 := dop_28 (dn_w dw62_2 7 rfl)
theorem dX7_meetings_40 : DE cX7_meetings 40 (.if_icmp .ne 6) 3 := dop_160 (dn_w dw62_2 8 rfl) rfl
theorem dX7_meetings_43 : DE cX7_meetings 43 (.iinc 4 1) 3 := dop_132 (dn_w dw62_2 11 rfl) rfl
theorem dX7_meetings_46 : DE cX7_meetings 46 (.iinc 5 1) 3 := dop_132 (dn_w dw62_2 14 rfl) rfl
theorem dX7_meetings_49 : DE cX7_meetings 49 (.goto (-35)) 3 := dop_167 (dn_w dw62_3 1 rfl) rfl
theorem dX7_meetings_52 : DE cX7_meetings 52 (.iload 4) 2 := dop_21 (dn_w dw62_3 4 rfl)
theorem dX7_meetings_54 : DE cX7_meetings 54 (.ireturn) 1 := dop_172 (dn_w dw62_3 6 rfl)
noncomputable def dt63_4 : List Nat := 4 :: 100 :: 62 :: 132 :: 5 :: 1 :: 167 :: 255 :: 204 :: 29 :: 172 :: []
noncomputable def dt63_3 : List Nat := 21 :: 4 :: 162 :: 0 :: 17 :: 21 :: 6 :: 54 :: 4 :: 42 :: 180 :: 0 :: 12 :: 180 :: 0 :: 50 :: dt63_4
noncomputable def dt63_2 : List Nat := 0 :: 42 :: 42 :: 180 :: 0 :: 12 :: 182 :: 0 :: 30 :: 184 :: 0 :: 34 :: 54 :: 6 :: 21 :: 6 :: dt63_3
noncomputable def dt63_1 : List Nat := 54 :: 5 :: 21 :: 5 :: 28 :: 162 :: 0 :: 52 :: 42 :: 180 :: 0 :: 12 :: 182 :: 0 :: 26 :: 154 :: dt63_2
noncomputable def dt63_0 : List Nat := 42 :: 180 :: 0 :: 12 :: 43 :: 182 :: 0 :: 18 :: 16 :: 253 :: 62 :: 16 :: 9 :: 54 :: 4 :: 3 :: dt63_1
theorem dw63_0 : dn cX7_emptiestDay 0 = dt63_0 := by decide +kernel
theorem dw63_1 : dn cX7_emptiestDay 16 = dt63_1 := dn_w dw63_0 16 rfl
theorem dw63_2 : dn cX7_emptiestDay 32 = dt63_2 := dn_w dw63_1 16 rfl
theorem dw63_3 : dn cX7_emptiestDay 48 = dt63_3 := dn_w dw63_2 16 rfl
theorem dw63_4 : dn cX7_emptiestDay 64 = dt63_4 := dn_w dw63_3 16 rfl
theorem dX7_emptiestDay_0 : DE cX7_emptiestDay 0 (.aload_n 0) 1 := dop_42 (dn_w dw63_0 0 rfl)
theorem dX7_emptiestDay_1 : DE cX7_emptiestDay 1 (.getfield 12) 3 := dop_180 (dn_w dw63_0 1 rfl) rfl
theorem dX7_emptiestDay_4 : DE cX7_emptiestDay 4 (.aload_n 1) 1 := dop_43 (dn_w dw63_0 4 rfl)
theorem dX7_emptiestDay_5 : DE cX7_emptiestDay 5 (.invokevirtual 18) 3 := dop_182 (dn_w dw63_0 5 rfl) rfl
theorem dX7_emptiestDay_8 : DE cX7_emptiestDay 8 (.bipush (-3)) 2 := dop_16 (dn_w dw63_0 8 rfl) rfl
theorem dX7_emptiestDay_10 : DE cX7_emptiestDay 10 (.istore_n 3) 1 := dop_62 (dn_w dw63_0 10 rfl)
theorem dX7_emptiestDay_11 : DE cX7_emptiestDay 11 (.bipush 9) 2 := dop_16 (dn_w dw63_0 11 rfl) rfl
theorem dX7_emptiestDay_13 : DE cX7_emptiestDay 13 (.istore 4) 2 := dop_54 (dn_w dw63_0 13 rfl)
theorem dX7_emptiestDay_15 : DE cX7_emptiestDay 15 (.iconst 0) 1 := dop_3 (dn_w dw63_0 15 rfl)
theorem dX7_emptiestDay_16 : DE cX7_emptiestDay 16 (.istore 5) 2 := dop_54 (dn_w dw63_1 0 rfl)
theorem dX7_emptiestDay_18 : DE cX7_emptiestDay 18 (.iload 5) 2 := dop_21 (dn_w dw63_1 2 rfl)
theorem dX7_emptiestDay_20 : DE cX7_emptiestDay 20 (.iload_n 2) 1 := dop_28 (dn_w dw63_1 4 rfl)
theorem dX7_emptiestDay_21 : DE cX7_emptiestDay 21 (.if_icmp .ge 52) 3 := dop_162 (dn_w dw63_1 5 rfl) rfl
theorem dX7_emptiestDay_24 : DE cX7_emptiestDay 24 (.aload_n 0) 1 := dop_42 (dn_w dw63_1 8 rfl)
theorem dX7_emptiestDay_25 : DE cX7_emptiestDay 25 (.getfield 12) 3 := dop_180 (dn_w dw63_1 9 rfl) rfl
theorem dX7_emptiestDay_28 : DE cX7_emptiestDay 28 (.invokevirtual 26) 3 := dop_182 (dn_w dw63_1 12 rfl) rfl
theorem dX7_emptiestDay_31 : DE cX7_emptiestDay 31 (.ifCond .ne 42) 3 := dop_154 (dn_w dw63_1 15 rfl) rfl
theorem dX7_emptiestDay_34 : DE cX7_emptiestDay 34 (.aload_n 0) 1 := dop_42 (dn_w dw63_2 2 rfl)
theorem dX7_emptiestDay_35 : DE cX7_emptiestDay 35 (.getfield 12) 3 := dop_180 (dn_w dw63_2 3 rfl) rfl
theorem dX7_emptiestDay_38 : DE cX7_emptiestDay 38 (.invokevirtual 30) 3 := dop_182 (dn_w dw63_2 6 rfl) rfl
theorem dX7_emptiestDay_41 : DE cX7_emptiestDay 41 (.invokestatic 34) 3 := dop_184 (dn_w dw63_2 9 rfl) rfl
theorem dX7_emptiestDay_44 : DE cX7_emptiestDay 44 (.istore 6) 2 := dop_54 (dn_w dw63_2 12 rfl)
theorem dX7_emptiestDay_46 : DE cX7_emptiestDay 46 (.iload 6) 2 := dop_21 (dn_w dw63_2 14 rfl)
theorem dX7_emptiestDay_48 : DE cX7_emptiestDay 48 (.iload 4) 2 := dop_21 (dn_w dw63_3 0 rfl)
theorem dX7_emptiestDay_50 : DE cX7_emptiestDay 50 (.if_icmp .ge 17) 3 := dop_162 (dn_w dw63_3 2 rfl) rfl
theorem dX7_emptiestDay_53 : DE cX7_emptiestDay 53 (.iload 6) 2 := dop_21 (dn_w dw63_3 5 rfl)
theorem dX7_emptiestDay_55 : DE cX7_emptiestDay 55 (.istore 4) 2 := dop_54 (dn_w dw63_3 7 rfl)
theorem dX7_emptiestDay_57 : DE cX7_emptiestDay 57 (.aload_n 0) 1 := dop_42 (dn_w dw63_3 9 rfl)
theorem dX7_emptiestDay_58 : DE cX7_emptiestDay 58 (.getfield 12) 3 := dop_180 (dn_w dw63_3 10 rfl) rfl
theorem dX7_emptiestDay_61 : DE cX7_emptiestDay 61 (.getfield 50) 3 := dop_180 (dn_w dw63_3 13 rfl) rfl
theorem dX7_emptiestDay_64 : DE cX7_emptiestDay 64 (.iconst 1) 1 := dop_4 (dn_w dw63_4 0 rfl)
theorem dX7_emptiestDay_65 : DE cX7_emptiestDay 65 (.isub) 1 := dop_100 (dn_w dw63_4 1 rfl)
theorem dX7_emptiestDay_66 : DE cX7_emptiestDay 66 (.istore_n 3) 1 := dop_62 (dn_w dw63_4 2 rfl)
theorem dX7_emptiestDay_67 : DE cX7_emptiestDay 67 (.iinc 5 1) 3 := dop_132 (dn_w dw63_4 3 rfl) rfl
theorem dX7_emptiestDay_70 : DE cX7_emptiestDay 70 (.goto (-52)) 3 := dop_167 (dn_w dw63_4 6 rfl) rfl
theorem dX7_emptiestDay_73 : DE cX7_emptiestDay 73 (.iload_n 3) 1 := dop_29 (dn_w dw63_4 9 rfl)
theorem dX7_emptiestDay_74 : DE cX7_emptiestDay 74 (.ireturn) 1 := dop_172 (dn_w dw63_4 10 rfl)
noncomputable def dt64_4 : List Nat := 4 :: 1 :: 167 :: 255 :: 206 :: 177 :: []
noncomputable def dt64_3 : List Nat := 50 :: 4 :: 100 :: 21 :: 5 :: 42 :: 180 :: 0 :: 12 :: 182 :: 0 :: 59 :: 182 :: 0 :: 62 :: 132 :: dt64_4
noncomputable def dt64_2 : List Nat := 42 :: 180 :: 0 :: 12 :: 182 :: 0 :: 30 :: 54 :: 5 :: 44 :: 42 :: 180 :: 0 :: 12 :: 180 :: 0 :: dt64_3
noncomputable def dt64_1 : List Nat := 21 :: 4 :: 29 :: 162 :: 0 :: 50 :: 42 :: 180 :: 0 :: 12 :: 182 :: 0 :: 26 :: 154 :: 0 :: 40 :: dt64_2
noncomputable def dt64_0 : List Nat := 42 :: 180 :: 0 :: 12 :: 43 :: 182 :: 0 :: 18 :: 44 :: 3 :: 181 :: 0 :: 54 :: 3 :: 54 :: 4 :: dt64_1
theorem dw64_0 : dn cX7_writeRows 0 = dt64_0 := by decide +kernel
theorem dw64_1 : dn cX7_writeRows 16 = dt64_1 := dn_w dw64_0 16 rfl
theorem dw64_2 : dn cX7_writeRows 32 = dt64_2 := dn_w dw64_1 16 rfl
theorem dw64_3 : dn cX7_writeRows 48 = dt64_3 := dn_w dw64_2 16 rfl
theorem dw64_4 : dn cX7_writeRows 64 = dt64_4 := dn_w dw64_3 16 rfl
theorem dX7_writeRows_0 : DE cX7_writeRows 0 (.aload_n 0) 1 := dop_42 (dn_w dw64_0 0 rfl)
theorem dX7_writeRows_1 : DE cX7_writeRows 1 (.getfield 12) 3 := dop_180 (dn_w dw64_0 1 rfl) rfl
theorem dX7_writeRows_4 : DE cX7_writeRows 4 (.aload_n 1) 1 := dop_43 (dn_w dw64_0 4 rfl)
theorem dX7_writeRows_5 : DE cX7_writeRows 5 (.invokevirtual 18) 3 := dop_182 (dn_w dw64_0 5 rfl) rfl
theorem dX7_writeRows_8 : DE cX7_writeRows 8 (.aload_n 2) 1 := dop_44 (dn_w dw64_0 8 rfl)
theorem dX7_writeRows_9 : DE cX7_writeRows 9 (.iconst 0) 1 := dop_3 (dn_w dw64_0 9 rfl)
theorem dX7_writeRows_10 : DE cX7_writeRows 10 (.putfield 54) 3 := dop_181 (dn_w dw64_0 10 rfl) rfl
theorem dX7_writeRows_13 : DE cX7_writeRows 13 (.iconst 0) 1 := dop_3 (dn_w dw64_0 13 rfl)
theorem dX7_writeRows_14 : DE cX7_writeRows 14 (.istore 4) 2 := dop_54 (dn_w dw64_0 14 rfl)
theorem dX7_writeRows_16 : DE cX7_writeRows 16 (.iload 4) 2 := dop_21 (dn_w dw64_1 0 rfl)
theorem dX7_writeRows_18 : DE cX7_writeRows 18 (.iload_n 3) 1 := dop_29 (dn_w dw64_1 2 rfl)
theorem dX7_writeRows_19 : DE cX7_writeRows 19 (.if_icmp .ge 50) 3 := dop_162 (dn_w dw64_1 3 rfl) rfl
theorem dX7_writeRows_22 : DE cX7_writeRows 22 (.aload_n 0) 1 := dop_42 (dn_w dw64_1 6 rfl)
theorem dX7_writeRows_23 : DE cX7_writeRows 23 (.getfield 12) 3 := dop_180 (dn_w dw64_1 7 rfl) rfl
theorem dX7_writeRows_26 : DE cX7_writeRows 26 (.invokevirtual 26) 3 := dop_182 (dn_w dw64_1 10 rfl) rfl
theorem dX7_writeRows_29 : DE cX7_writeRows 29 (.ifCond .ne 40) 3 := dop_154 (dn_w dw64_1 13 rfl) rfl
theorem dX7_writeRows_32 : DE cX7_writeRows 32 (.aload_n 0) 1 := dop_42 (dn_w dw64_2 0 rfl)
theorem dX7_writeRows_33 : DE cX7_writeRows 33 (.getfield 12) 3 := dop_180 (dn_w dw64_2 1 rfl) rfl
theorem dX7_writeRows_36 : DE cX7_writeRows 36 (.invokevirtual 30) 3 := dop_182 (dn_w dw64_2 4 rfl) rfl
theorem dX7_writeRows_39 : DE cX7_writeRows 39 (.istore 5) 2 := dop_54 (dn_w dw64_2 7 rfl)
theorem dX7_writeRows_41 : DE cX7_writeRows 41 (.aload_n 2) 1 := dop_44 (dn_w dw64_2 9 rfl)
theorem dX7_writeRows_42 : DE cX7_writeRows 42 (.aload_n 0) 1 := dop_42 (dn_w dw64_2 10 rfl)
theorem dX7_writeRows_43 : DE cX7_writeRows 43 (.getfield 12) 3 := dop_180 (dn_w dw64_2 11 rfl) rfl
theorem dX7_writeRows_46 : DE cX7_writeRows 46 (.getfield 50) 3 := dop_180 (dn_w dw64_2 14 rfl) rfl
theorem dX7_writeRows_49 : DE cX7_writeRows 49 (.iconst 1) 1 := dop_4 (dn_w dw64_3 1 rfl)
theorem dX7_writeRows_50 : DE cX7_writeRows 50 (.isub) 1 := dop_100 (dn_w dw64_3 2 rfl)
theorem dX7_writeRows_51 : DE cX7_writeRows 51 (.iload 5) 2 := dop_21 (dn_w dw64_3 3 rfl)
theorem dX7_writeRows_53 : DE cX7_writeRows 53 (.aload_n 0) 1 := dop_42 (dn_w dw64_3 5 rfl)
theorem dX7_writeRows_54 : DE cX7_writeRows 54 (.getfield 12) 3 := dop_180 (dn_w dw64_3 6 rfl) rfl
theorem dX7_writeRows_57 : DE cX7_writeRows 57 (.invokevirtual 59) 3 := dop_182 (dn_w dw64_3 9 rfl) rfl
theorem dX7_writeRows_60 : DE cX7_writeRows 60 (.invokevirtual 62) 3 := dop_182 (dn_w dw64_3 12 rfl) rfl
theorem dX7_writeRows_63 : DE cX7_writeRows 63 (.iinc 4 1) 3 := dop_132 (dn_w dw64_3 15 rfl) rfl
theorem dX7_writeRows_66 : DE cX7_writeRows 66 (.goto (-50)) 3 := dop_167 (dn_w dw64_4 2 rfl) rfl
theorem dX7_writeRows_69 : DE cX7_writeRows 69 (.return_) 1 := dop_177 (dn_w dw64_4 5 rfl)
noncomputable def dt65_4 : List Nat := 5 :: 29 :: 172 :: 132 :: 3 :: 1 :: 167 :: 255 :: 196 :: 2 :: 172 :: []
noncomputable def dt65_3 : List Nat := 4 :: 100 :: 21 :: 4 :: 42 :: 180 :: 0 :: 12 :: 182 :: 0 :: 59 :: 182 :: 0 :: 66 :: 154 :: 0 :: dt65_4
noncomputable def dt65_2 : List Nat := 0 :: 12 :: 182 :: 0 :: 30 :: 54 :: 4 :: 44 :: 29 :: 42 :: 180 :: 0 :: 12 :: 180 :: 0 :: 50 :: dt65_3
noncomputable def dt65_1 : List Nat := 0 :: 58 :: 42 :: 180 :: 0 :: 12 :: 182 :: 0 :: 26 :: 153 :: 0 :: 5 :: 29 :: 172 :: 42 :: 180 :: dt65_2
noncomputable def dt65_0 : List Nat := 42 :: 180 :: 0 :: 12 :: 43 :: 182 :: 0 :: 18 :: 3 :: 62 :: 29 :: 44 :: 180 :: 0 :: 54 :: 162 :: dt65_1
theorem dw65_0 : dn cX7_firstWrongRow 0 = dt65_0 := by decide +kernel
theorem dw65_1 : dn cX7_firstWrongRow 16 = dt65_1 := dn_w dw65_0 16 rfl
theorem dw65_2 : dn cX7_firstWrongRow 32 = dt65_2 := dn_w dw65_1 16 rfl
theorem dw65_3 : dn cX7_firstWrongRow 48 = dt65_3 := dn_w dw65_2 16 rfl
theorem dw65_4 : dn cX7_firstWrongRow 64 = dt65_4 := dn_w dw65_3 16 rfl
theorem dX7_firstWrongRow_0 : DE cX7_firstWrongRow 0 (.aload_n 0) 1 := dop_42 (dn_w dw65_0 0 rfl)
theorem dX7_firstWrongRow_1 : DE cX7_firstWrongRow 1 (.getfield 12) 3 := dop_180 (dn_w dw65_0 1 rfl) rfl
theorem dX7_firstWrongRow_4 : DE cX7_firstWrongRow 4 (.aload_n 1) 1 := dop_43 (dn_w dw65_0 4 rfl)
theorem dX7_firstWrongRow_5 : DE cX7_firstWrongRow 5 (.invokevirtual 18) 3 := dop_182 (dn_w dw65_0 5 rfl) rfl
theorem dX7_firstWrongRow_8 : DE cX7_firstWrongRow 8 (.iconst 0) 1 := dop_3 (dn_w dw65_0 8 rfl)
theorem dX7_firstWrongRow_9 : DE cX7_firstWrongRow 9 (.istore_n 3) 1 := dop_62 (dn_w dw65_0 9 rfl)
theorem dX7_firstWrongRow_10 : DE cX7_firstWrongRow 10 (.iload_n 3) 1 := dop_29 (dn_w dw65_0 10 rfl)
theorem dX7_firstWrongRow_11 : DE cX7_firstWrongRow 11 (.aload_n 2) 1 := dop_44 (dn_w dw65_0 11 rfl)
theorem dX7_firstWrongRow_12 : DE cX7_firstWrongRow 12 (.getfield 54) 3 := dop_180 (dn_w dw65_0 12 rfl) rfl
theorem dX7_firstWrongRow_15 : DE cX7_firstWrongRow 15 (.if_icmp .ge 58) 3 := dop_162 (dn_w dw65_0 15 rfl) rfl
theorem dX7_firstWrongRow_18 : DE cX7_firstWrongRow 18 (.aload_n 0) 1 := dop_42 (dn_w dw65_1 2 rfl)
theorem dX7_firstWrongRow_19 : DE cX7_firstWrongRow 19 (.getfield 12) 3 := dop_180 (dn_w dw65_1 3 rfl) rfl
theorem dX7_firstWrongRow_22 : DE cX7_firstWrongRow 22 (.invokevirtual 26) 3 := dop_182 (dn_w dw65_1 6 rfl) rfl
theorem dX7_firstWrongRow_25 : DE cX7_firstWrongRow 25 (.ifCond .eq 5) 3 := dop_153 (dn_w dw65_1 9 rfl) rfl
theorem dX7_firstWrongRow_28 : DE cX7_firstWrongRow 28 (.iload_n 3) 1 := dop_29 (dn_w dw65_1 12 rfl)
theorem dX7_firstWrongRow_29 : DE cX7_firstWrongRow 29 (.ireturn) 1 := dop_172 (dn_w dw65_1 13 rfl)
theorem dX7_firstWrongRow_30 : DE cX7_firstWrongRow 30 (.aload_n 0) 1 := dop_42 (dn_w dw65_1 14 rfl)
theorem dX7_firstWrongRow_31 : DE cX7_firstWrongRow 31 (.getfield 12) 3 := dop_180 (dn_w dw65_1 15 rfl) rfl
theorem dX7_firstWrongRow_34 : DE cX7_firstWrongRow 34 (.invokevirtual 30) 3 := dop_182 (dn_w dw65_2 2 rfl) rfl
theorem dX7_firstWrongRow_37 : DE cX7_firstWrongRow 37 (.istore 4) 2 := dop_54 (dn_w dw65_2 5 rfl)
theorem dX7_firstWrongRow_39 : DE cX7_firstWrongRow 39 (.aload_n 2) 1 := dop_44 (dn_w dw65_2 7 rfl)
theorem dX7_firstWrongRow_40 : DE cX7_firstWrongRow 40 (.iload_n 3) 1 := dop_29 (dn_w dw65_2 8 rfl)
theorem dX7_firstWrongRow_41 : DE cX7_firstWrongRow 41 (.aload_n 0) 1 := dop_42 (dn_w dw65_2 9 rfl)
theorem dX7_firstWrongRow_42 : DE cX7_firstWrongRow 42 (.getfield 12) 3 := dop_180 (dn_w dw65_2 10 rfl) rfl
theorem dX7_firstWrongRow_45 : DE cX7_firstWrongRow 45 (.getfield 50) 3 := dop_180 (dn_w dw65_2 13 rfl) rfl
theorem dX7_firstWrongRow_48 : DE cX7_firstWrongRow 48 (.iconst 1) 1 := dop_4 (dn_w dw65_3 0 rfl)
theorem dX7_firstWrongRow_49 : DE cX7_firstWrongRow 49 (.isub) 1 := dop_100 (dn_w dw65_3 1 rfl)
theorem dX7_firstWrongRow_50 : DE cX7_firstWrongRow 50 (.iload 4) 2 := dop_21 (dn_w dw65_3 2 rfl)
theorem dX7_firstWrongRow_52 : DE cX7_firstWrongRow 52 (.aload_n 0) 1 := dop_42 (dn_w dw65_3 4 rfl)
theorem dX7_firstWrongRow_53 : DE cX7_firstWrongRow 53 (.getfield 12) 3 := dop_180 (dn_w dw65_3 5 rfl) rfl
theorem dX7_firstWrongRow_56 : DE cX7_firstWrongRow 56 (.invokevirtual 59) 3 := dop_182 (dn_w dw65_3 8 rfl) rfl
theorem dX7_firstWrongRow_59 : DE cX7_firstWrongRow 59 (.invokevirtual 66) 3 := dop_182 (dn_w dw65_3 11 rfl) rfl
theorem dX7_firstWrongRow_62 : DE cX7_firstWrongRow 62 (.ifCond .ne 5) 3 := dop_154 (dn_w dw65_3 14 rfl) rfl
theorem dX7_firstWrongRow_65 : DE cX7_firstWrongRow 65 (.iload_n 3) 1 := dop_29 (dn_w dw65_4 1 rfl)
theorem dX7_firstWrongRow_66 : DE cX7_firstWrongRow 66 (.ireturn) 1 := dop_172 (dn_w dw65_4 2 rfl)
theorem dX7_firstWrongRow_67 : DE cX7_firstWrongRow 67 (.iinc 3 1) 3 := dop_132 (dn_w dw65_4 3 rfl) rfl
theorem dX7_firstWrongRow_70 : DE cX7_firstWrongRow 70 (.goto (-60)) 3 := dop_167 (dn_w dw65_4 6 rfl) rfl
theorem dX7_firstWrongRow_73 : DE cX7_firstWrongRow 73 (.iconst (-1)) 1 := dop_2 (dn_w dw65_4 9 rfl)
theorem dX7_firstWrongRow_74 : DE cX7_firstWrongRow 74 (.ireturn) 1 := dop_172 (dn_w dw65_4 10 rfl)
noncomputable def dt66_8 : List Nat := 27 :: 187 :: 0 :: 50 :: 89 :: 183 :: 0 :: 64 :: 83 :: 132 :: 1 :: 1 :: 167 :: 255 :: 235 :: 177 :: []
noncomputable def dt66_7 : List Nat := 1 :: 1 :: 167 :: 255 :: 235 :: 3 :: 60 :: 27 :: 7 :: 162 :: 0 :: 22 :: 42 :: 180 :: 0 :: 52 :: dt66_8
noncomputable def dt66_6 : List Nat := 0 :: 22 :: 42 :: 180 :: 0 :: 46 :: 27 :: 187 :: 0 :: 44 :: 89 :: 183 :: 0 :: 63 :: 83 :: 132 :: dt66_7
noncomputable def dt66_5 : List Nat := 42 :: 187 :: 0 :: 56 :: 89 :: 183 :: 0 :: 58 :: 181 :: 0 :: 59 :: 3 :: 60 :: 27 :: 7 :: 162 :: dt66_6
noncomputable def dt66_4 : List Nat := 42 :: 7 :: 189 :: 0 :: 44 :: 181 :: 0 :: 46 :: 42 :: 7 :: 189 :: 0 :: 50 :: 181 :: 0 :: 52 :: dt66_5
noncomputable def dt66_3 : List Nat := 0 :: 32 :: 181 :: 0 :: 33 :: 42 :: 187 :: 0 :: 37 :: 89 :: 183 :: 0 :: 39 :: 181 :: 0 :: 40 :: dt66_4
noncomputable def dt66_2 : List Nat := 187 :: 0 :: 23 :: 89 :: 183 :: 0 :: 25 :: 181 :: 0 :: 26 :: 42 :: 187 :: 0 :: 30 :: 89 :: 183 :: dt66_3
noncomputable def dt66_1 : List Nat := 187 :: 0 :: 7 :: 89 :: 183 :: 0 :: 9 :: 181 :: 0 :: 16 :: 42 :: 3 :: 181 :: 0 :: 19 :: 42 :: dt66_2
noncomputable def dt66_0 : List Nat := 42 :: 183 :: 0 :: 1 :: 42 :: 187 :: 0 :: 7 :: 89 :: 183 :: 0 :: 9 :: 181 :: 0 :: 10 :: 42 :: dt66_1
theorem dw66_0 : dn cX8_init 0 = dt66_0 := by decide +kernel
theorem dw66_1 : dn cX8_init 16 = dt66_1 := dn_w dw66_0 16 rfl
theorem dw66_2 : dn cX8_init 32 = dt66_2 := dn_w dw66_1 16 rfl
theorem dw66_3 : dn cX8_init 48 = dt66_3 := dn_w dw66_2 16 rfl
theorem dw66_4 : dn cX8_init 64 = dt66_4 := dn_w dw66_3 16 rfl
theorem dw66_5 : dn cX8_init 80 = dt66_5 := dn_w dw66_4 16 rfl
theorem dw66_6 : dn cX8_init 96 = dt66_6 := dn_w dw66_5 16 rfl
theorem dw66_7 : dn cX8_init 112 = dt66_7 := dn_w dw66_6 16 rfl
theorem dw66_8 : dn cX8_init 128 = dt66_8 := dn_w dw66_7 16 rfl
theorem dX8_init_0 : DE cX8_init 0 (.aload_n 0) 1 := dop_42 (dn_w dw66_0 0 rfl)
theorem dX8_init_1 : DE cX8_init 1 (.invokespecial 1) 3 := dop_183 (dn_w dw66_0 1 rfl) rfl
theorem dX8_init_4 : DE cX8_init 4 (.aload_n 0) 1 := dop_42 (dn_w dw66_0 4 rfl)
theorem dX8_init_5 : DE cX8_init 5 (.new 7) 3 := dop_187 (dn_w dw66_0 5 rfl) rfl
theorem dX8_init_8 : DE cX8_init 8 (.dup) 1 := dop_89 (dn_w dw66_0 8 rfl)
theorem dX8_init_9 : DE cX8_init 9 (.invokespecial 9) 3 := dop_183 (dn_w dw66_0 9 rfl) rfl
theorem dX8_init_12 : DE cX8_init 12 (.putfield 10) 3 := dop_181 (dn_w dw66_0 12 rfl) rfl
theorem dX8_init_15 : DE cX8_init 15 (.aload_n 0) 1 := dop_42 (dn_w dw66_0 15 rfl)
theorem dX8_init_16 : DE cX8_init 16 (.new 7) 3 := dop_187 (dn_w dw66_1 0 rfl) rfl
theorem dX8_init_19 : DE cX8_init 19 (.dup) 1 := dop_89 (dn_w dw66_1 3 rfl)
theorem dX8_init_20 : DE cX8_init 20 (.invokespecial 9) 3 := dop_183 (dn_w dw66_1 4 rfl) rfl
theorem dX8_init_23 : DE cX8_init 23 (.putfield 16) 3 := dop_181 (dn_w dw66_1 7 rfl) rfl
theorem dX8_init_26 : DE cX8_init 26 (.aload_n 0) 1 := dop_42 (dn_w dw66_1 10 rfl)
theorem dX8_init_27 : DE cX8_init 27 (.iconst 0) 1 := dop_3 (dn_w dw66_1 11 rfl)
theorem dX8_init_28 : DE cX8_init 28 (.putfield 19) 3 := dop_181 (dn_w dw66_1 12 rfl) rfl
theorem dX8_init_31 : DE cX8_init 31 (.aload_n 0) 1 := dop_42 (dn_w dw66_1 15 rfl)
theorem dX8_init_32 : DE cX8_init 32 (.new 23) 3 := dop_187 (dn_w dw66_2 0 rfl) rfl
theorem dX8_init_35 : DE cX8_init 35 (.dup) 1 := dop_89 (dn_w dw66_2 3 rfl)
theorem dX8_init_36 : DE cX8_init 36 (.invokespecial 25) 3 := dop_183 (dn_w dw66_2 4 rfl) rfl
theorem dX8_init_39 : DE cX8_init 39 (.putfield 26) 3 := dop_181 (dn_w dw66_2 7 rfl) rfl
theorem dX8_init_42 : DE cX8_init 42 (.aload_n 0) 1 := dop_42 (dn_w dw66_2 10 rfl)
theorem dX8_init_43 : DE cX8_init 43 (.new 30) 3 := dop_187 (dn_w dw66_2 11 rfl) rfl
theorem dX8_init_46 : DE cX8_init 46 (.dup) 1 := dop_89 (dn_w dw66_2 14 rfl)
theorem dX8_init_47 : DE cX8_init 47 (.invokespecial 32) 3 := dop_183 (dn_w dw66_2 15 rfl) rfl
theorem dX8_init_50 : DE cX8_init 50 (.putfield 33) 3 := dop_181 (dn_w dw66_3 2 rfl) rfl
theorem dX8_init_53 : DE cX8_init 53 (.aload_n 0) 1 := dop_42 (dn_w dw66_3 5 rfl)
theorem dX8_init_54 : DE cX8_init 54 (.new 37) 3 := dop_187 (dn_w dw66_3 6 rfl) rfl
theorem dX8_init_57 : DE cX8_init 57 (.dup) 1 := dop_89 (dn_w dw66_3 9 rfl)
theorem dX8_init_58 : DE cX8_init 58 (.invokespecial 39) 3 := dop_183 (dn_w dw66_3 10 rfl) rfl
theorem dX8_init_61 : DE cX8_init 61 (.putfield 40) 3 := dop_181 (dn_w dw66_3 13 rfl) rfl
theorem dX8_init_64 : DE cX8_init 64 (.aload_n 0) 1 := dop_42 (dn_w dw66_4 0 rfl)
theorem dX8_init_65 : DE cX8_init 65 (.iconst 4) 1 := dop_7 (dn_w dw66_4 1 rfl)
theorem dX8_init_66 : DE cX8_init 66 (.anewarray 44) 3 := dop_189 (dn_w dw66_4 2 rfl) rfl
theorem dX8_init_69 : DE cX8_init 69 (.putfield 46) 3 := dop_181 (dn_w dw66_4 5 rfl) rfl
theorem dX8_init_72 : DE cX8_init 72 (.aload_n 0) 1 := dop_42 (dn_w dw66_4 8 rfl)
theorem dX8_init_73 : DE cX8_init 73 (.iconst 4) 1 := dop_7 (dn_w dw66_4 9 rfl)
theorem dX8_init_74 : DE cX8_init 74 (.anewarray 50) 3 := dop_189 (dn_w dw66_4 10 rfl) rfl
theorem dX8_init_77 : DE cX8_init 77 (.putfield 52) 3 := dop_181 (dn_w dw66_4 13 rfl) rfl
theorem dX8_init_80 : DE cX8_init 80 (.aload_n 0) 1 := dop_42 (dn_w dw66_5 0 rfl)
theorem dX8_init_81 : DE cX8_init 81 (.new 56) 3 := dop_187 (dn_w dw66_5 1 rfl) rfl
theorem dX8_init_84 : DE cX8_init 84 (.dup) 1 := dop_89 (dn_w dw66_5 4 rfl)
theorem dX8_init_85 : DE cX8_init 85 (.invokespecial 58) 3 := dop_183 (dn_w dw66_5 5 rfl) rfl
theorem dX8_init_88 : DE cX8_init 88 (.putfield 59) 3 := dop_181 (dn_w dw66_5 8 rfl) rfl
theorem dX8_init_91 : DE cX8_init 91 (.iconst 0) 1 := dop_3 (dn_w dw66_5 11 rfl)
theorem dX8_init_92 : DE cX8_init 92 (.istore_n 1) 1 := dop_60 (dn_w dw66_5 12 rfl)
theorem dX8_init_93 : DE cX8_init 93 (.iload_n 1) 1 := dop_27 (dn_w dw66_5 13 rfl)
theorem dX8_init_94 : DE cX8_init 94 (.iconst 4) 1 := dop_7 (dn_w dw66_5 14 rfl)
theorem dX8_init_95 : DE cX8_init 95 (.if_icmp .ge 22) 3 := dop_162 (dn_w dw66_5 15 rfl) rfl
theorem dX8_init_98 : DE cX8_init 98 (.aload_n 0) 1 := dop_42 (dn_w dw66_6 2 rfl)
theorem dX8_init_99 : DE cX8_init 99 (.getfield 46) 3 := dop_180 (dn_w dw66_6 3 rfl) rfl
theorem dX8_init_102 : DE cX8_init 102 (.iload_n 1) 1 := dop_27 (dn_w dw66_6 6 rfl)
theorem dX8_init_103 : DE cX8_init 103 (.new 44) 3 := dop_187 (dn_w dw66_6 7 rfl) rfl
theorem dX8_init_106 : DE cX8_init 106 (.dup) 1 := dop_89 (dn_w dw66_6 10 rfl)
theorem dX8_init_107 : DE cX8_init 107 (.invokespecial 63) 3 := dop_183 (dn_w dw66_6 11 rfl) rfl
theorem dX8_init_110 : DE cX8_init 110 (.aastore) 1 := dop_83 (dn_w dw66_6 14 rfl)
theorem dX8_init_111 : DE cX8_init 111 (.iinc 1 1) 3 := dop_132 (dn_w dw66_6 15 rfl) rfl
theorem dX8_init_114 : DE cX8_init 114 (.goto (-21)) 3 := dop_167 (dn_w dw66_7 2 rfl) rfl
theorem dX8_init_117 : DE cX8_init 117 (.iconst 0) 1 := dop_3 (dn_w dw66_7 5 rfl)
theorem dX8_init_118 : DE cX8_init 118 (.istore_n 1) 1 := dop_60 (dn_w dw66_7 6 rfl)
theorem dX8_init_119 : DE cX8_init 119 (.iload_n 1) 1 := dop_27 (dn_w dw66_7 7 rfl)
theorem dX8_init_120 : DE cX8_init 120 (.iconst 4) 1 := dop_7 (dn_w dw66_7 8 rfl)
theorem dX8_init_121 : DE cX8_init 121 (.if_icmp .ge 22) 3 := dop_162 (dn_w dw66_7 9 rfl) rfl
theorem dX8_init_124 : DE cX8_init 124 (.aload_n 0) 1 := dop_42 (dn_w dw66_7 12 rfl)
theorem dX8_init_125 : DE cX8_init 125 (.getfield 52) 3 := dop_180 (dn_w dw66_7 13 rfl) rfl
theorem dX8_init_128 : DE cX8_init 128 (.iload_n 1) 1 := dop_27 (dn_w dw66_8 0 rfl)
theorem dX8_init_129 : DE cX8_init 129 (.new 50) 3 := dop_187 (dn_w dw66_8 1 rfl) rfl
theorem dX8_init_132 : DE cX8_init 132 (.dup) 1 := dop_89 (dn_w dw66_8 4 rfl)
theorem dX8_init_133 : DE cX8_init 133 (.invokespecial 64) 3 := dop_183 (dn_w dw66_8 5 rfl) rfl
theorem dX8_init_136 : DE cX8_init 136 (.aastore) 1 := dop_83 (dn_w dw66_8 8 rfl)
theorem dX8_init_137 : DE cX8_init 137 (.iinc 1 1) 3 := dop_132 (dn_w dw66_8 9 rfl) rfl
theorem dX8_init_140 : DE cX8_init 140 (.goto (-21)) 3 := dop_167 (dn_w dw66_8 12 rfl) rfl
theorem dX8_init_143 : DE cX8_init 143 (.return_) 1 := dop_177 (dn_w dw66_8 15 rfl)
noncomputable def dt67_2 : List Nat := 167 :: 0 :: 5 :: 16 :: 254 :: 172 :: []
noncomputable def dt67_1 : List Nat := 33 :: 31 :: 29 :: 182 :: 0 :: 65 :: 153 :: 0 :: 13 :: 42 :: 180 :: 0 :: 33 :: 180 :: 0 :: 69 :: dt67_2
noncomputable def dt67_0 : List Nat := 29 :: 4 :: 161 :: 0 :: 9 :: 29 :: 16 :: 8 :: 164 :: 0 :: 5 :: 2 :: 172 :: 42 :: 180 :: 0 :: dt67_1
theorem dw67_0 : dn cX8_feed 0 = dt67_0 := by decide +kernel
theorem dw67_1 : dn cX8_feed 16 = dt67_1 := dn_w dw67_0 16 rfl
theorem dw67_2 : dn cX8_feed 32 = dt67_2 := dn_w dw67_1 16 rfl
theorem dX8_feed_0 : DE cX8_feed 0 (.iload_n 3) 1 := dop_29 (dn_w dw67_0 0 rfl)
theorem dX8_feed_1 : DE cX8_feed 1 (.iconst 1) 1 := dop_4 (dn_w dw67_0 1 rfl)
theorem dX8_feed_2 : DE cX8_feed 2 (.if_icmp .lt 9) 3 := dop_161 (dn_w dw67_0 2 rfl) rfl
theorem dX8_feed_5 : DE cX8_feed 5 (.iload_n 3) 1 := dop_29 (dn_w dw67_0 5 rfl)
theorem dX8_feed_6 : DE cX8_feed 6 (.bipush 8) 2 := dop_16 (dn_w dw67_0 6 rfl) rfl
theorem dX8_feed_8 : DE cX8_feed 8 (.if_icmp .le 5) 3 := dop_164 (dn_w dw67_0 8 rfl) rfl
theorem dX8_feed_11 : DE cX8_feed 11 (.iconst (-1)) 1 := dop_2 (dn_w dw67_0 11 rfl)
theorem dX8_feed_12 : DE cX8_feed 12 (.ireturn) 1 := dop_172 (dn_w dw67_0 12 rfl)
theorem dX8_feed_13 : DE cX8_feed 13 (.aload_n 0) 1 := dop_42 (dn_w dw67_0 13 rfl)
theorem dX8_feed_14 : DE cX8_feed 14 (.getfield 33) 3 := dop_180 (dn_w dw67_0 14 rfl) rfl
theorem dX8_feed_17 : DE cX8_feed 17 (.lload_n 1) 1 := dop_31 (dn_w dw67_1 1 rfl)
theorem dX8_feed_18 : DE cX8_feed 18 (.iload_n 3) 1 := dop_29 (dn_w dw67_1 2 rfl)
theorem dX8_feed_19 : DE cX8_feed 19 (.invokevirtual 65) 3 := dop_182 (dn_w dw67_1 3 rfl) rfl
theorem dX8_feed_22 : DE cX8_feed 22 (.ifCond .eq 13) 3 := dop_153 (dn_w dw67_1 6 rfl) rfl
theorem dX8_feed_25 : DE cX8_feed 25 (.aload_n 0) 1 := dop_42 (dn_w dw67_1 9 rfl)
theorem dX8_feed_26 : DE cX8_feed 26 (.getfield 33) 3 := dop_180 (dn_w dw67_1 10 rfl) rfl
theorem dX8_feed_29 : DE cX8_feed 29 (.getfield 69) 3 := dop_180 (dn_w dw67_1 13 rfl) rfl
theorem dX8_feed_32 : DE cX8_feed 32 (.goto 5) 3 := dop_167 (dn_w dw67_2 0 rfl) rfl
theorem dX8_feed_35 : DE cX8_feed 35 (.bipush (-2)) 2 := dop_16 (dn_w dw67_2 3 rfl) rfl
theorem dX8_feed_37 : DE cX8_feed 37 (.ireturn) 1 := dop_172 (dn_w dw67_2 5 rfl)
noncomputable def dt68_3 : List Nat := 0 :: 87 :: 172 :: []
noncomputable def dt68_2 : List Nat := 182 :: 0 :: 80 :: 42 :: 180 :: 0 :: 40 :: 3 :: 181 :: 0 :: 84 :: 42 :: 180 :: 0 :: 10 :: 180 :: dt68_3
noncomputable def dt68_1 : List Nat := 16 :: 156 :: 27 :: 100 :: 172 :: 42 :: 180 :: 0 :: 10 :: 42 :: 180 :: 0 :: 33 :: 180 :: 0 :: 77 :: dt68_2
noncomputable def dt68_0 : List Nat := 42 :: 180 :: 0 :: 33 :: 42 :: 180 :: 0 :: 10 :: 182 :: 0 :: 73 :: 60 :: 27 :: 155 :: 0 :: 8 :: dt68_1
theorem dw68_0 : dn cX8_school 0 = dt68_0 := by decide +kernel
theorem dw68_1 : dn cX8_school 16 = dt68_1 := dn_w dw68_0 16 rfl
theorem dw68_2 : dn cX8_school 32 = dt68_2 := dn_w dw68_1 16 rfl
theorem dw68_3 : dn cX8_school 48 = dt68_3 := dn_w dw68_2 16 rfl
theorem dX8_school_0 : DE cX8_school 0 (.aload_n 0) 1 := dop_42 (dn_w dw68_0 0 rfl)
theorem dX8_school_1 : DE cX8_school 1 (.getfield 33) 3 := dop_180 (dn_w dw68_0 1 rfl) rfl
theorem dX8_school_4 : DE cX8_school 4 (.aload_n 0) 1 := dop_42 (dn_w dw68_0 4 rfl)
theorem dX8_school_5 : DE cX8_school 5 (.getfield 10) 3 := dop_180 (dn_w dw68_0 5 rfl) rfl
theorem dX8_school_8 : DE cX8_school 8 (.invokevirtual 73) 3 := dop_182 (dn_w dw68_0 8 rfl) rfl
theorem dX8_school_11 : DE cX8_school 11 (.istore_n 1) 1 := dop_60 (dn_w dw68_0 11 rfl)
theorem dX8_school_12 : DE cX8_school 12 (.iload_n 1) 1 := dop_27 (dn_w dw68_0 12 rfl)
theorem dX8_school_13 : DE cX8_school 13 (.ifCond .lt 8) 3 := dop_155 (dn_w dw68_0 13 rfl) rfl
theorem dX8_school_16 : DE cX8_school 16 (.bipush (-100)) 2 := dop_16 (dn_w dw68_1 0 rfl) rfl
theorem dX8_school_18 : DE cX8_school 18 (.iload_n 1) 1 := dop_27 (dn_w dw68_1 2 rfl)
theorem dX8_school_19 : DE cX8_school 19 (.isub) 1 := dop_100 (dn_w dw68_1 3 rfl)
theorem dX8_school_20 : DE cX8_school 20 (.ireturn) 1 := dop_172 (dn_w dw68_1 4 rfl)
theorem dX8_school_21 : DE cX8_school 21 (.aload_n 0) 1 := dop_42 (dn_w dw68_1 5 rfl)
theorem dX8_school_22 : DE cX8_school 22 (.getfield 10) 3 := dop_180 (dn_w dw68_1 6 rfl) rfl
theorem dX8_school_25 : DE cX8_school 25 (.aload_n 0) 1 := dop_42 (dn_w dw68_1 9 rfl)
theorem dX8_school_26 : DE cX8_school 26 (.getfield 33) 3 := dop_180 (dn_w dw68_1 10 rfl) rfl
theorem dX8_school_29 : DE cX8_school 29 (.getfield 77) 3 := dop_180 (dn_w dw68_1 13 rfl) rfl
theorem dX8_school_32 : DE cX8_school 32 (.invokevirtual 80) 3 := dop_182 (dn_w dw68_2 0 rfl) rfl
theorem dX8_school_35 : DE cX8_school 35 (.aload_n 0) 1 := dop_42 (dn_w dw68_2 3 rfl)
theorem dX8_school_36 : DE cX8_school 36 (.getfield 40) 3 := dop_180 (dn_w dw68_2 4 rfl) rfl
theorem dX8_school_39 : DE cX8_school 39 (.iconst 0) 1 := dop_3 (dn_w dw68_2 7 rfl)
theorem dX8_school_40 : DE cX8_school 40 (.putfield 84) 3 := dop_181 (dn_w dw68_2 8 rfl) rfl
theorem dX8_school_43 : DE cX8_school 43 (.aload_n 0) 1 := dop_42 (dn_w dw68_2 11 rfl)
theorem dX8_school_44 : DE cX8_school 44 (.getfield 10) 3 := dop_180 (dn_w dw68_2 12 rfl) rfl
theorem dX8_school_47 : DE cX8_school 47 (.getfield 87) 3 := dop_180 (dn_w dw68_2 15 rfl) rfl
theorem dX8_school_50 : DE cX8_school 50 (.ireturn) 1 := dop_172 (dn_w dw68_3 2 rfl)
noncomputable def dt69_4 : List Nat := 172 :: []
noncomputable def dt69_3 : List Nat := 0 :: 15 :: 42 :: 180 :: 0 :: 10 :: 180 :: 0 :: 87 :: 4 :: 100 :: 167 :: 0 :: 5 :: 16 :: 254 :: dt69_4
noncomputable def dt69_2 : List Nat := 5 :: 2 :: 172 :: 42 :: 180 :: 0 :: 10 :: 27 :: 28 :: 29 :: 21 :: 4 :: 182 :: 0 :: 98 :: 153 :: dt69_3
noncomputable def dt69_1 : List Nat := 0 :: 95 :: 153 :: 0 :: 15 :: 21 :: 4 :: 155 :: 0 :: 10 :: 21 :: 4 :: 16 :: 9 :: 164 :: 0 :: dt69_2
noncomputable def dt69_0 : List Nat := 27 :: 184 :: 0 :: 88 :: 153 :: 0 :: 29 :: 28 :: 184 :: 0 :: 92 :: 153 :: 0 :: 22 :: 29 :: 184 :: dt69_1
theorem dw69_0 : dn cX8_child 0 = dt69_0 := by decide +kernel
theorem dw69_1 : dn cX8_child 16 = dt69_1 := dn_w dw69_0 16 rfl
theorem dw69_2 : dn cX8_child 32 = dt69_2 := dn_w dw69_1 16 rfl
theorem dw69_3 : dn cX8_child 48 = dt69_3 := dn_w dw69_2 16 rfl
theorem dw69_4 : dn cX8_child 64 = dt69_4 := dn_w dw69_3 16 rfl
theorem dX8_child_0 : DE cX8_child 0 (.iload_n 1) 1 := dop_27 (dn_w dw69_0 0 rfl)
theorem dX8_child_1 : DE cX8_child 1 (.invokestatic 88) 3 := dop_184 (dn_w dw69_0 1 rfl) rfl
theorem dX8_child_4 : DE cX8_child 4 (.ifCond .eq 29) 3 := dop_153 (dn_w dw69_0 4 rfl) rfl
theorem dX8_child_7 : DE cX8_child 7 (.iload_n 2) 1 := dop_28 (dn_w dw69_0 7 rfl)
theorem dX8_child_8 : DE cX8_child 8 (.invokestatic 92) 3 := dop_184 (dn_w dw69_0 8 rfl) rfl
theorem dX8_child_11 : DE cX8_child 11 (.ifCond .eq 22) 3 := dop_153 (dn_w dw69_0 11 rfl) rfl
theorem dX8_child_14 : DE cX8_child 14 (.iload_n 3) 1 := dop_29 (dn_w dw69_0 14 rfl)
theorem dX8_child_15 : DE cX8_child 15 (.invokestatic 95) 3 := dop_184 (dn_w dw69_0 15 rfl) rfl
theorem dX8_child_18 : DE cX8_child 18 (.ifCond .eq 15) 3 := dop_153 (dn_w dw69_1 2 rfl) rfl
theorem dX8_child_21 : DE cX8_child 21 (.iload 4) 2 := dop_21 (dn_w dw69_1 5 rfl)
theorem dX8_child_23 : DE cX8_child 23 (.ifCond .lt 10) 3 := dop_155 (dn_w dw69_1 7 rfl) rfl
theorem dX8_child_26 : DE cX8_child 26 (.iload 4) 2 := dop_21 (dn_w dw69_1 10 rfl)
theorem dX8_child_28 : DE cX8_child 28 (.bipush 9) 2 := dop_16 (dn_w dw69_1 12 rfl) rfl
theorem dX8_child_30 : DE cX8_child 30 (.if_icmp .le 5) 3 := dop_164 (dn_w dw69_1 14 rfl) rfl
theorem dX8_child_33 : DE cX8_child 33 (.iconst (-1)) 1 := dop_2 (dn_w dw69_2 1 rfl)
theorem dX8_child_34 : DE cX8_child 34 (.ireturn) 1 := dop_172 (dn_w dw69_2 2 rfl)
theorem dX8_child_35 : DE cX8_child 35 (.aload_n 0) 1 := dop_42 (dn_w dw69_2 3 rfl)
theorem dX8_child_36 : DE cX8_child 36 (.getfield 10) 3 := dop_180 (dn_w dw69_2 4 rfl) rfl
theorem dX8_child_39 : DE cX8_child 39 (.iload_n 1) 1 := dop_27 (dn_w dw69_2 7 rfl)
theorem dX8_child_40 : DE cX8_child 40 (.iload_n 2) 1 := dop_28 (dn_w dw69_2 8 rfl)
theorem dX8_child_41 : DE cX8_child 41 (.iload_n 3) 1 := dop_29 (dn_w dw69_2 9 rfl)
theorem dX8_child_42 : DE cX8_child 42 (.iload 4) 2 := dop_21 (dn_w dw69_2 10 rfl)
theorem dX8_child_44 : DE cX8_child 44 (.invokevirtual 98) 3 := dop_182 (dn_w dw69_2 12 rfl) rfl
theorem dX8_child_47 : DE cX8_child 47 (.ifCond .eq 15) 3 := dop_153 (dn_w dw69_2 15 rfl) rfl
theorem dX8_child_50 : DE cX8_child 50 (.aload_n 0) 1 := dop_42 (dn_w dw69_3 2 rfl)
theorem dX8_child_51 : DE cX8_child 51 (.getfield 10) 3 := dop_180 (dn_w dw69_3 3 rfl) rfl
theorem dX8_child_54 : DE cX8_child 54 (.getfield 87) 3 := dop_180 (dn_w dw69_3 6 rfl) rfl
theorem dX8_child_57 : DE cX8_child 57 (.iconst 1) 1 := dop_4 (dn_w dw69_3 9 rfl)
theorem dX8_child_58 : DE cX8_child 58 (.isub) 1 := dop_100 (dn_w dw69_3 10 rfl)
theorem dX8_child_59 : DE cX8_child 59 (.goto 5) 3 := dop_167 (dn_w dw69_3 11 rfl) rfl
theorem dX8_child_62 : DE cX8_child 62 (.bipush (-2)) 2 := dop_16 (dn_w dw69_3 14 rfl) rfl
theorem dX8_child_64 : DE cX8_child 64 (.ireturn) 1 := dop_172 (dn_w dw69_4 0 rfl)
noncomputable def dt70_1 : List Nat := 28 :: 182 :: 0 :: 105 :: 167 :: 0 :: 4 :: 2 :: 172 :: []
noncomputable def dt70_0 : List Nat := 42 :: 180 :: 0 :: 10 :: 27 :: 182 :: 0 :: 102 :: 153 :: 0 :: 15 :: 42 :: 180 :: 0 :: 10 :: 27 :: dt70_1
theorem dw70_0 : dn cX8_childOf 0 = dt70_0 := by decide +kernel
theorem dw70_1 : dn cX8_childOf 16 = dt70_1 := dn_w dw70_0 16 rfl
theorem dX8_childOf_0 : DE cX8_childOf 0 (.aload_n 0) 1 := dop_42 (dn_w dw70_0 0 rfl)
theorem dX8_childOf_1 : DE cX8_childOf 1 (.getfield 10) 3 := dop_180 (dn_w dw70_0 1 rfl) rfl
theorem dX8_childOf_4 : DE cX8_childOf 4 (.iload_n 1) 1 := dop_27 (dn_w dw70_0 4 rfl)
theorem dX8_childOf_5 : DE cX8_childOf 5 (.invokevirtual 102) 3 := dop_182 (dn_w dw70_0 5 rfl) rfl
theorem dX8_childOf_8 : DE cX8_childOf 8 (.ifCond .eq 15) 3 := dop_153 (dn_w dw70_0 8 rfl) rfl
theorem dX8_childOf_11 : DE cX8_childOf 11 (.aload_n 0) 1 := dop_42 (dn_w dw70_0 11 rfl)
theorem dX8_childOf_12 : DE cX8_childOf 12 (.getfield 10) 3 := dop_180 (dn_w dw70_0 12 rfl) rfl
theorem dX8_childOf_15 : DE cX8_childOf 15 (.iload_n 1) 1 := dop_27 (dn_w dw70_0 15 rfl)
theorem dX8_childOf_16 : DE cX8_childOf 16 (.iload_n 2) 1 := dop_28 (dn_w dw70_1 0 rfl)
theorem dX8_childOf_17 : DE cX8_childOf 17 (.invokevirtual 105) 3 := dop_182 (dn_w dw70_1 1 rfl) rfl
theorem dX8_childOf_20 : DE cX8_childOf 20 (.goto 4) 3 := dop_167 (dn_w dw70_1 4 rfl) rfl
theorem dX8_childOf_23 : DE cX8_childOf 23 (.iconst (-1)) 1 := dop_2 (dn_w dw70_1 7 rfl)
theorem dX8_childOf_24 : DE cX8_childOf 24 (.ireturn) 1 := dop_172 (dn_w dw70_1 8 rfl)
noncomputable def dt71_3 : List Nat := 42 :: 180 :: 0 :: 10 :: 180 :: 0 :: 113 :: 27 :: 29 :: 79 :: 21 :: 4 :: 172 :: []
noncomputable def dt71_2 : List Nat := 0 :: 109 :: 27 :: 46 :: 54 :: 4 :: 42 :: 180 :: 0 :: 10 :: 180 :: 0 :: 109 :: 27 :: 28 :: 79 :: dt71_3
noncomputable def dt71_1 : List Nat := 0 :: 10 :: 29 :: 184 :: 0 :: 92 :: 154 :: 0 :: 5 :: 2 :: 172 :: 42 :: 180 :: 0 :: 10 :: 180 :: dt71_2
noncomputable def dt71_0 : List Nat := 42 :: 180 :: 0 :: 10 :: 27 :: 182 :: 0 :: 102 :: 153 :: 0 :: 17 :: 28 :: 184 :: 0 :: 88 :: 153 :: dt71_1
theorem dw71_0 : dn cX8_mind 0 = dt71_0 := by decide +kernel
theorem dw71_1 : dn cX8_mind 16 = dt71_1 := dn_w dw71_0 16 rfl
theorem dw71_2 : dn cX8_mind 32 = dt71_2 := dn_w dw71_1 16 rfl
theorem dw71_3 : dn cX8_mind 48 = dt71_3 := dn_w dw71_2 16 rfl
theorem dX8_mind_0 : DE cX8_mind 0 (.aload_n 0) 1 := dop_42 (dn_w dw71_0 0 rfl)
theorem dX8_mind_1 : DE cX8_mind 1 (.getfield 10) 3 := dop_180 (dn_w dw71_0 1 rfl) rfl
theorem dX8_mind_4 : DE cX8_mind 4 (.iload_n 1) 1 := dop_27 (dn_w dw71_0 4 rfl)
theorem dX8_mind_5 : DE cX8_mind 5 (.invokevirtual 102) 3 := dop_182 (dn_w dw71_0 5 rfl) rfl
theorem dX8_mind_8 : DE cX8_mind 8 (.ifCond .eq 17) 3 := dop_153 (dn_w dw71_0 8 rfl) rfl
theorem dX8_mind_11 : DE cX8_mind 11 (.iload_n 2) 1 := dop_28 (dn_w dw71_0 11 rfl)
theorem dX8_mind_12 : DE cX8_mind 12 (.invokestatic 88) 3 := dop_184 (dn_w dw71_0 12 rfl) rfl
theorem dX8_mind_15 : DE cX8_mind 15 (.ifCond .eq 10) 3 := dop_153 (dn_w dw71_0 15 rfl) rfl
theorem dX8_mind_18 : DE cX8_mind 18 (.iload_n 3) 1 := dop_29 (dn_w dw71_1 2 rfl)
theorem dX8_mind_19 : DE cX8_mind 19 (.invokestatic 92) 3 := dop_184 (dn_w dw71_1 3 rfl) rfl
theorem dX8_mind_22 : DE cX8_mind 22 (.ifCond .ne 5) 3 := dop_154 (dn_w dw71_1 6 rfl) rfl
theorem dX8_mind_25 : DE cX8_mind 25 (.iconst (-1)) 1 := dop_2 (dn_w dw71_1 9 rfl)
theorem dX8_mind_26 : DE cX8_mind 26 (.ireturn) 1 := dop_172 (dn_w dw71_1 10 rfl)
theorem dX8_mind_27 : DE cX8_mind 27 (.aload_n 0) 1 := dop_42 (dn_w dw71_1 11 rfl)
theorem dX8_mind_28 : DE cX8_mind 28 (.getfield 10) 3 := dop_180 (dn_w dw71_1 12 rfl) rfl
theorem dX8_mind_31 : DE cX8_mind 31 (.getfield 109) 3 := dop_180 (dn_w dw71_1 15 rfl) rfl
theorem dX8_mind_34 : DE cX8_mind 34 (.iload_n 1) 1 := dop_27 (dn_w dw71_2 2 rfl)
theorem dX8_mind_35 : DE cX8_mind 35 (.iaload) 1 := dop_46 (dn_w dw71_2 3 rfl)
theorem dX8_mind_36 : DE cX8_mind 36 (.istore 4) 2 := dop_54 (dn_w dw71_2 4 rfl)
theorem dX8_mind_38 : DE cX8_mind 38 (.aload_n 0) 1 := dop_42 (dn_w dw71_2 6 rfl)
theorem dX8_mind_39 : DE cX8_mind 39 (.getfield 10) 3 := dop_180 (dn_w dw71_2 7 rfl) rfl
theorem dX8_mind_42 : DE cX8_mind 42 (.getfield 109) 3 := dop_180 (dn_w dw71_2 10 rfl) rfl
theorem dX8_mind_45 : DE cX8_mind 45 (.iload_n 1) 1 := dop_27 (dn_w dw71_2 13 rfl)
theorem dX8_mind_46 : DE cX8_mind 46 (.iload_n 2) 1 := dop_28 (dn_w dw71_2 14 rfl)
theorem dX8_mind_47 : DE cX8_mind 47 (.iastore) 1 := dop_79 (dn_w dw71_2 15 rfl)
theorem dX8_mind_48 : DE cX8_mind 48 (.aload_n 0) 1 := dop_42 (dn_w dw71_3 0 rfl)
theorem dX8_mind_49 : DE cX8_mind 49 (.getfield 10) 3 := dop_180 (dn_w dw71_3 1 rfl) rfl
theorem dX8_mind_52 : DE cX8_mind 52 (.getfield 113) 3 := dop_180 (dn_w dw71_3 4 rfl) rfl
theorem dX8_mind_55 : DE cX8_mind 55 (.iload_n 1) 1 := dop_27 (dn_w dw71_3 7 rfl)
theorem dX8_mind_56 : DE cX8_mind 56 (.iload_n 3) 1 := dop_29 (dn_w dw71_3 8 rfl)
theorem dX8_mind_57 : DE cX8_mind 57 (.iastore) 1 := dop_79 (dn_w dw71_3 9 rfl)
theorem dX8_mind_58 : DE cX8_mind 58 (.iload 4) 2 := dop_21 (dn_w dw71_3 10 rfl)
theorem dX8_mind_60 : DE cX8_mind 60 (.ireturn) 1 := dop_172 (dn_w dw71_3 12 rfl)
noncomputable def dt72_2 : List Nat := 62 :: 42 :: 180 :: 0 :: 10 :: 180 :: 0 :: 116 :: 27 :: 28 :: 79 :: 29 :: 172 :: []
noncomputable def dt72_1 : List Nat := 16 :: 20 :: 164 :: 0 :: 5 :: 2 :: 172 :: 42 :: 180 :: 0 :: 10 :: 180 :: 0 :: 116 :: 27 :: 46 :: dt72_2
noncomputable def dt72_0 : List Nat := 42 :: 180 :: 0 :: 10 :: 27 :: 182 :: 0 :: 102 :: 153 :: 0 :: 13 :: 28 :: 155 :: 0 :: 9 :: 28 :: dt72_1
theorem dw72_0 : dn cX8_sick 0 = dt72_0 := by decide +kernel
theorem dw72_1 : dn cX8_sick 16 = dt72_1 := dn_w dw72_0 16 rfl
theorem dw72_2 : dn cX8_sick 32 = dt72_2 := dn_w dw72_1 16 rfl
theorem dX8_sick_0 : DE cX8_sick 0 (.aload_n 0) 1 := dop_42 (dn_w dw72_0 0 rfl)
theorem dX8_sick_1 : DE cX8_sick 1 (.getfield 10) 3 := dop_180 (dn_w dw72_0 1 rfl) rfl
theorem dX8_sick_4 : DE cX8_sick 4 (.iload_n 1) 1 := dop_27 (dn_w dw72_0 4 rfl)
theorem dX8_sick_5 : DE cX8_sick 5 (.invokevirtual 102) 3 := dop_182 (dn_w dw72_0 5 rfl) rfl
theorem dX8_sick_8 : DE cX8_sick 8 (.ifCond .eq 13) 3 := dop_153 (dn_w dw72_0 8 rfl) rfl
theorem dX8_sick_11 : DE cX8_sick 11 (.iload_n 2) 1 := dop_28 (dn_w dw72_0 11 rfl)
theorem dX8_sick_12 : DE cX8_sick 12 (.ifCond .lt 9) 3 := dop_155 (dn_w dw72_0 12 rfl) rfl
theorem dX8_sick_15 : DE cX8_sick 15 (.iload_n 2) 1 := dop_28 (dn_w dw72_0 15 rfl)
theorem dX8_sick_16 : DE cX8_sick 16 (.bipush 20) 2 := dop_16 (dn_w dw72_1 0 rfl) rfl
theorem dX8_sick_18 : DE cX8_sick 18 (.if_icmp .le 5) 3 := dop_164 (dn_w dw72_1 2 rfl) rfl
theorem dX8_sick_21 : DE cX8_sick 21 (.iconst (-1)) 1 := dop_2 (dn_w dw72_1 5 rfl)
theorem dX8_sick_22 : DE cX8_sick 22 (.ireturn) 1 := dop_172 (dn_w dw72_1 6 rfl)
theorem dX8_sick_23 : DE cX8_sick 23 (.aload_n 0) 1 := dop_42 (dn_w dw72_1 7 rfl)
theorem dX8_sick_24 : DE cX8_sick 24 (.getfield 10) 3 := dop_180 (dn_w dw72_1 8 rfl) rfl
theorem dX8_sick_27 : DE cX8_sick 27 (.getfield 116) 3 := dop_180 (dn_w dw72_1 11 rfl) rfl
theorem dX8_sick_30 : DE cX8_sick 30 (.iload_n 1) 1 := dop_27 (dn_w dw72_1 14 rfl)
theorem dX8_sick_31 : DE cX8_sick 31 (.iaload) 1 := dop_46 (dn_w dw72_1 15 rfl)
theorem dX8_sick_32 : DE cX8_sick 32 (.istore_n 3) 1 := dop_62 (dn_w dw72_2 0 rfl)
theorem dX8_sick_33 : DE cX8_sick 33 (.aload_n 0) 1 := dop_42 (dn_w dw72_2 1 rfl)
theorem dX8_sick_34 : DE cX8_sick 34 (.getfield 10) 3 := dop_180 (dn_w dw72_2 2 rfl) rfl
theorem dX8_sick_37 : DE cX8_sick 37 (.getfield 116) 3 := dop_180 (dn_w dw72_2 5 rfl) rfl
theorem dX8_sick_40 : DE cX8_sick 40 (.iload_n 1) 1 := dop_27 (dn_w dw72_2 8 rfl)
theorem dX8_sick_41 : DE cX8_sick 41 (.iload_n 2) 1 := dop_28 (dn_w dw72_2 9 rfl)
theorem dX8_sick_42 : DE cX8_sick 42 (.iastore) 1 := dop_79 (dn_w dw72_2 10 rfl)
theorem dX8_sick_43 : DE cX8_sick 43 (.iload_n 3) 1 := dop_29 (dn_w dw72_2 11 rfl)
theorem dX8_sick_44 : DE cX8_sick 44 (.ireturn) 1 := dop_172 (dn_w dw72_2 12 rfl)
noncomputable def dt73_2 : List Nat := 10 :: 180 :: 0 :: 122 :: 27 :: 28 :: 79 :: 29 :: 172 :: []
noncomputable def dt73_1 : List Nat := 5 :: 2 :: 172 :: 42 :: 180 :: 0 :: 10 :: 180 :: 0 :: 122 :: 27 :: 46 :: 62 :: 42 :: 180 :: 0 :: dt73_2
noncomputable def dt73_0 : List Nat := 27 :: 184 :: 0 :: 119 :: 153 :: 0 :: 13 :: 28 :: 155 :: 0 :: 9 :: 28 :: 16 :: 31 :: 164 :: 0 :: dt73_1
theorem dw73_0 : dn cX8_event 0 = dt73_0 := by decide +kernel
theorem dw73_1 : dn cX8_event 16 = dt73_1 := dn_w dw73_0 16 rfl
theorem dw73_2 : dn cX8_event 32 = dt73_2 := dn_w dw73_1 16 rfl
theorem dX8_event_0 : DE cX8_event 0 (.iload_n 1) 1 := dop_27 (dn_w dw73_0 0 rfl)
theorem dX8_event_1 : DE cX8_event 1 (.invokestatic 119) 3 := dop_184 (dn_w dw73_0 1 rfl) rfl
theorem dX8_event_4 : DE cX8_event 4 (.ifCond .eq 13) 3 := dop_153 (dn_w dw73_0 4 rfl) rfl
theorem dX8_event_7 : DE cX8_event 7 (.iload_n 2) 1 := dop_28 (dn_w dw73_0 7 rfl)
theorem dX8_event_8 : DE cX8_event 8 (.ifCond .lt 9) 3 := dop_155 (dn_w dw73_0 8 rfl) rfl
theorem dX8_event_11 : DE cX8_event 11 (.iload_n 2) 1 := dop_28 (dn_w dw73_0 11 rfl)
theorem dX8_event_12 : DE cX8_event 12 (.bipush 31) 2 := dop_16 (dn_w dw73_0 12 rfl) rfl
theorem dX8_event_14 : DE cX8_event 14 (.if_icmp .le 5) 3 := dop_164 (dn_w dw73_0 14 rfl) rfl
theorem dX8_event_17 : DE cX8_event 17 (.iconst (-1)) 1 := dop_2 (dn_w dw73_1 1 rfl)
theorem dX8_event_18 : DE cX8_event 18 (.ireturn) 1 := dop_172 (dn_w dw73_1 2 rfl)
theorem dX8_event_19 : DE cX8_event 19 (.aload_n 0) 1 := dop_42 (dn_w dw73_1 3 rfl)
theorem dX8_event_20 : DE cX8_event 20 (.getfield 10) 3 := dop_180 (dn_w dw73_1 4 rfl) rfl
theorem dX8_event_23 : DE cX8_event 23 (.getfield 122) 3 := dop_180 (dn_w dw73_1 7 rfl) rfl
theorem dX8_event_26 : DE cX8_event 26 (.iload_n 1) 1 := dop_27 (dn_w dw73_1 10 rfl)
theorem dX8_event_27 : DE cX8_event 27 (.iaload) 1 := dop_46 (dn_w dw73_1 11 rfl)
theorem dX8_event_28 : DE cX8_event 28 (.istore_n 3) 1 := dop_62 (dn_w dw73_1 12 rfl)
theorem dX8_event_29 : DE cX8_event 29 (.aload_n 0) 1 := dop_42 (dn_w dw73_1 13 rfl)
theorem dX8_event_30 : DE cX8_event 30 (.getfield 10) 3 := dop_180 (dn_w dw73_1 14 rfl) rfl
theorem dX8_event_33 : DE cX8_event 33 (.getfield 122) 3 := dop_180 (dn_w dw73_2 1 rfl) rfl
theorem dX8_event_36 : DE cX8_event 36 (.iload_n 1) 1 := dop_27 (dn_w dw73_2 4 rfl)
theorem dX8_event_37 : DE cX8_event 37 (.iload_n 2) 1 := dop_28 (dn_w dw73_2 5 rfl)
theorem dX8_event_38 : DE cX8_event 38 (.iastore) 1 := dop_79 (dn_w dw73_2 6 rfl)
theorem dX8_event_39 : DE cX8_event 39 (.iload_n 3) 1 := dop_29 (dn_w dw73_2 7 rfl)
theorem dX8_event_40 : DE cX8_event 40 (.ireturn) 1 := dop_172 (dn_w dw73_2 8 rfl)
noncomputable def dt74_4 : List Nat := 42 :: 180 :: 0 :: 10 :: 180 :: 0 :: 128 :: 27 :: 46 :: 172 :: 2 :: 172 :: []
noncomputable def dt74_3 : List Nat := 46 :: 172 :: 27 :: 8 :: 112 :: 172 :: 42 :: 180 :: 0 :: 10 :: 180 :: 0 :: 125 :: 27 :: 46 :: 172 :: dt74_4
noncomputable def dt74_2 : List Nat := 0 :: 0 :: 0 :: 44 :: 0 :: 0 :: 0 :: 54 :: 42 :: 180 :: 0 :: 10 :: 180 :: 0 :: 122 :: 27 :: dt74_3
noncomputable def dt74_1 : List Nat := 0 :: 0 :: 0 :: 0 :: 0 :: 0 :: 0 :: 3 :: 0 :: 0 :: 0 :: 30 :: 0 :: 0 :: 0 :: 40 :: dt74_2
noncomputable def dt74_0 : List Nat := 27 :: 184 :: 0 :: 119 :: 154 :: 0 :: 5 :: 2 :: 172 :: 28 :: 170 :: 0 :: 0 :: 0 :: 0 :: 64 :: dt74_1
theorem dw74_0 : dn cX8_dayOf 0 = dt74_0 := by decide +kernel
theorem dw74_1 : dn cX8_dayOf 16 = dt74_1 := dn_w dw74_0 16 rfl
theorem dw74_2 : dn cX8_dayOf 32 = dt74_2 := dn_w dw74_1 16 rfl
theorem dw74_3 : dn cX8_dayOf 48 = dt74_3 := dn_w dw74_2 16 rfl
theorem dw74_4 : dn cX8_dayOf 64 = dt74_4 := dn_w dw74_3 16 rfl
theorem dX8_dayOf_0 : DE cX8_dayOf 0 (.iload_n 1) 1 := dop_27 (dn_w dw74_0 0 rfl)
theorem dX8_dayOf_1 : DE cX8_dayOf 1 (.invokestatic 119) 3 := dop_184 (dn_w dw74_0 1 rfl) rfl
theorem dX8_dayOf_4 : DE cX8_dayOf 4 (.ifCond .ne 5) 3 := dop_154 (dn_w dw74_0 4 rfl) rfl
theorem dX8_dayOf_7 : DE cX8_dayOf 7 (.iconst (-1)) 1 := dop_2 (dn_w dw74_0 7 rfl)
theorem dX8_dayOf_8 : DE cX8_dayOf 8 (.ireturn) 1 := dop_172 (dn_w dw74_0 8 rfl)
theorem dX8_dayOf_9 : DE cX8_dayOf 9 (.iload_n 2) 1 := dop_28 (dn_w dw74_0 9 rfl)
theorem dX8_dayOf_10 : decode cX8_dayOf 10 = .ok (.tableswitch 64 0 3 #[30, 40, 44, 54], 30) := by decide +kernel
theorem dX8_dayOf_40 : DE cX8_dayOf 40 (.aload_n 0) 1 := dop_42 (dn_w dw74_2 8 rfl)
theorem dX8_dayOf_41 : DE cX8_dayOf 41 (.getfield 10) 3 := dop_180 (dn_w dw74_2 9 rfl) rfl
theorem dX8_dayOf_44 : DE cX8_dayOf 44 (.getfield 122) 3 := dop_180 (dn_w dw74_2 12 rfl) rfl
theorem dX8_dayOf_47 : DE cX8_dayOf 47 (.iload_n 1) 1 := dop_27 (dn_w dw74_2 15 rfl)
theorem dX8_dayOf_48 : DE cX8_dayOf 48 (.iaload) 1 := dop_46 (dn_w dw74_3 0 rfl)
theorem dX8_dayOf_49 : DE cX8_dayOf 49 (.ireturn) 1 := dop_172 (dn_w dw74_3 1 rfl)
theorem dX8_dayOf_50 : DE cX8_dayOf 50 (.iload_n 1) 1 := dop_27 (dn_w dw74_3 2 rfl)
theorem dX8_dayOf_51 : DE cX8_dayOf 51 (.iconst 5) 1 := dop_8 (dn_w dw74_3 3 rfl)
theorem dX8_dayOf_52 : DE cX8_dayOf 52 (.irem) 1 := dop_112 (dn_w dw74_3 4 rfl)
theorem dX8_dayOf_53 : DE cX8_dayOf 53 (.ireturn) 1 := dop_172 (dn_w dw74_3 5 rfl)
theorem dX8_dayOf_54 : DE cX8_dayOf 54 (.aload_n 0) 1 := dop_42 (dn_w dw74_3 6 rfl)
theorem dX8_dayOf_55 : DE cX8_dayOf 55 (.getfield 10) 3 := dop_180 (dn_w dw74_3 7 rfl) rfl
theorem dX8_dayOf_58 : DE cX8_dayOf 58 (.getfield 125) 3 := dop_180 (dn_w dw74_3 10 rfl) rfl
theorem dX8_dayOf_61 : DE cX8_dayOf 61 (.iload_n 1) 1 := dop_27 (dn_w dw74_3 13 rfl)
theorem dX8_dayOf_62 : DE cX8_dayOf 62 (.iaload) 1 := dop_46 (dn_w dw74_3 14 rfl)
theorem dX8_dayOf_63 : DE cX8_dayOf 63 (.ireturn) 1 := dop_172 (dn_w dw74_3 15 rfl)
theorem dX8_dayOf_64 : DE cX8_dayOf 64 (.aload_n 0) 1 := dop_42 (dn_w dw74_4 0 rfl)
theorem dX8_dayOf_65 : DE cX8_dayOf 65 (.getfield 10) 3 := dop_180 (dn_w dw74_4 1 rfl) rfl
theorem dX8_dayOf_68 : DE cX8_dayOf 68 (.getfield 128) 3 := dop_180 (dn_w dw74_4 4 rfl) rfl
theorem dX8_dayOf_71 : DE cX8_dayOf 71 (.iload_n 1) 1 := dop_27 (dn_w dw74_4 7 rfl)
theorem dX8_dayOf_72 : DE cX8_dayOf 72 (.iaload) 1 := dop_46 (dn_w dw74_4 8 rfl)
theorem dX8_dayOf_73 : DE cX8_dayOf 73 (.ireturn) 1 := dop_172 (dn_w dw74_4 9 rfl)
theorem dX8_dayOf_74 : DE cX8_dayOf 74 (.iconst (-1)) 1 := dop_2 (dn_w dw74_4 10 rfl)
theorem dX8_dayOf_75 : DE cX8_dayOf 75 (.ireturn) 1 := dop_172 (dn_w dw74_4 11 rfl)
noncomputable def dt75_3 : List Nat := 79 :: 29 :: 172 :: []
noncomputable def dt75_2 : List Nat := 10 :: 180 :: 0 :: 137 :: 27 :: 46 :: 62 :: 42 :: 180 :: 0 :: 10 :: 180 :: 0 :: 137 :: 27 :: 28 :: dt75_3
noncomputable def dt75_1 : List Nat := 0 :: 12 :: 28 :: 178 :: 0 :: 134 :: 27 :: 46 :: 164 :: 0 :: 5 :: 2 :: 172 :: 42 :: 180 :: 0 :: dt75_2
noncomputable def dt75_0 : List Nat := 27 :: 155 :: 0 :: 26 :: 27 :: 7 :: 162 :: 0 :: 21 :: 28 :: 178 :: 0 :: 131 :: 27 :: 46 :: 161 :: dt75_1
theorem dw75_0 : dn cX8_set 0 = dt75_0 := by decide +kernel
theorem dw75_1 : dn cX8_set 16 = dt75_1 := dn_w dw75_0 16 rfl
theorem dw75_2 : dn cX8_set 32 = dt75_2 := dn_w dw75_1 16 rfl
theorem dw75_3 : dn cX8_set 48 = dt75_3 := dn_w dw75_2 16 rfl
theorem dX8_set_0 : DE cX8_set 0 (.iload_n 1) 1 := dop_27 (dn_w dw75_0 0 rfl)
theorem dX8_set_1 : DE cX8_set 1 (.ifCond .lt 26) 3 := dop_155 (dn_w dw75_0 1 rfl) rfl
theorem dX8_set_4 : DE cX8_set 4 (.iload_n 1) 1 := dop_27 (dn_w dw75_0 4 rfl)
theorem dX8_set_5 : DE cX8_set 5 (.iconst 4) 1 := dop_7 (dn_w dw75_0 5 rfl)
theorem dX8_set_6 : DE cX8_set 6 (.if_icmp .ge 21) 3 := dop_162 (dn_w dw75_0 6 rfl) rfl
theorem dX8_set_9 : DE cX8_set 9 (.iload_n 2) 1 := dop_28 (dn_w dw75_0 9 rfl)
theorem dX8_set_10 : DE cX8_set 10 (.getstatic 131) 3 := dop_178 (dn_w dw75_0 10 rfl) rfl
theorem dX8_set_13 : DE cX8_set 13 (.iload_n 1) 1 := dop_27 (dn_w dw75_0 13 rfl)
theorem dX8_set_14 : DE cX8_set 14 (.iaload) 1 := dop_46 (dn_w dw75_0 14 rfl)
theorem dX8_set_15 : DE cX8_set 15 (.if_icmp .lt 12) 3 := dop_161 (dn_w dw75_0 15 rfl) rfl
theorem dX8_set_18 : DE cX8_set 18 (.iload_n 2) 1 := dop_28 (dn_w dw75_1 2 rfl)
theorem dX8_set_19 : DE cX8_set 19 (.getstatic 134) 3 := dop_178 (dn_w dw75_1 3 rfl) rfl
theorem dX8_set_22 : DE cX8_set 22 (.iload_n 1) 1 := dop_27 (dn_w dw75_1 6 rfl)
theorem dX8_set_23 : DE cX8_set 23 (.iaload) 1 := dop_46 (dn_w dw75_1 7 rfl)
theorem dX8_set_24 : DE cX8_set 24 (.if_icmp .le 5) 3 := dop_164 (dn_w dw75_1 8 rfl) rfl
theorem dX8_set_27 : DE cX8_set 27 (.iconst (-1)) 1 := dop_2 (dn_w dw75_1 11 rfl)
theorem dX8_set_28 : DE cX8_set 28 (.ireturn) 1 := dop_172 (dn_w dw75_1 12 rfl)
theorem dX8_set_29 : DE cX8_set 29 (.aload_n 0) 1 := dop_42 (dn_w dw75_1 13 rfl)
theorem dX8_set_30 : DE cX8_set 30 (.getfield 10) 3 := dop_180 (dn_w dw75_1 14 rfl) rfl
theorem dX8_set_33 : DE cX8_set 33 (.getfield 137) 3 := dop_180 (dn_w dw75_2 1 rfl) rfl
theorem dX8_set_36 : DE cX8_set 36 (.iload_n 1) 1 := dop_27 (dn_w dw75_2 4 rfl)
theorem dX8_set_37 : DE cX8_set 37 (.iaload) 1 := dop_46 (dn_w dw75_2 5 rfl)
theorem dX8_set_38 : DE cX8_set 38 (.istore_n 3) 1 := dop_62 (dn_w dw75_2 6 rfl)
theorem dX8_set_39 : DE cX8_set 39 (.aload_n 0) 1 := dop_42 (dn_w dw75_2 7 rfl)
theorem dX8_set_40 : DE cX8_set 40 (.getfield 10) 3 := dop_180 (dn_w dw75_2 8 rfl) rfl
theorem dX8_set_43 : DE cX8_set 43 (.getfield 137) 3 := dop_180 (dn_w dw75_2 11 rfl) rfl
theorem dX8_set_46 : DE cX8_set 46 (.iload_n 1) 1 := dop_27 (dn_w dw75_2 14 rfl)
theorem dX8_set_47 : DE cX8_set 47 (.iload_n 2) 1 := dop_28 (dn_w dw75_2 15 rfl)
theorem dX8_set_48 : DE cX8_set 48 (.iastore) 1 := dop_79 (dn_w dw75_3 0 rfl)
theorem dX8_set_49 : DE cX8_set 49 (.iload_n 3) 1 := dop_29 (dn_w dw75_3 1 rfl)
theorem dX8_set_50 : DE cX8_set 50 (.ireturn) 1 := dop_172 (dn_w dw75_3 2 rfl)
noncomputable def dt76_0 : List Nat := 42 :: 180 :: 0 :: 10 :: 180 :: 0 :: 140 :: 172 :: []
theorem dw76_0 : dn cX8_today 0 = dt76_0 := by decide +kernel
theorem dX8_today_0 : DE cX8_today 0 (.aload_n 0) 1 := dop_42 (dn_w dw76_0 0 rfl)
theorem dX8_today_1 : DE cX8_today 1 (.getfield 10) 3 := dop_180 (dn_w dw76_0 1 rfl) rfl
theorem dX8_today_4 : DE cX8_today 4 (.getfield 140) 3 := dop_180 (dn_w dw76_0 4 rfl) rfl
theorem dX8_today_7 : DE cX8_today 7 (.ireturn) 1 := dop_172 (dn_w dw76_0 7 rfl)
noncomputable def dt77_2 : List Nat := 0 :: 147 :: 153 :: 0 :: 7 :: 4 :: 167 :: 0 :: 4 :: 3 :: 172 :: []
noncomputable def dt77_1 : List Nat := 10 :: 182 :: 0 :: 143 :: 153 :: 0 :: 6 :: 16 :: 252 :: 172 :: 42 :: 180 :: 0 :: 10 :: 27 :: 182 :: dt77_2
noncomputable def dt77_0 : List Nat := 42 :: 180 :: 0 :: 10 :: 27 :: 182 :: 0 :: 102 :: 154 :: 0 :: 5 :: 2 :: 172 :: 42 :: 180 :: 0 :: dt77_1
theorem dw77_0 : dn cX8_would 0 = dt77_0 := by decide +kernel
theorem dw77_1 : dn cX8_would 16 = dt77_1 := dn_w dw77_0 16 rfl
theorem dw77_2 : dn cX8_would 32 = dt77_2 := dn_w dw77_1 16 rfl
theorem dX8_would_0 : DE cX8_would 0 (.aload_n 0) 1 := dop_42 (dn_w dw77_0 0 rfl)
theorem dX8_would_1 : DE cX8_would 1 (.getfield 10) 3 := dop_180 (dn_w dw77_0 1 rfl) rfl
theorem dX8_would_4 : DE cX8_would 4 (.iload_n 1) 1 := dop_27 (dn_w dw77_0 4 rfl)
theorem dX8_would_5 : DE cX8_would 5 (.invokevirtual 102) 3 := dop_182 (dn_w dw77_0 5 rfl) rfl
theorem dX8_would_8 : DE cX8_would 8 (.ifCond .ne 5) 3 := dop_154 (dn_w dw77_0 8 rfl) rfl
theorem dX8_would_11 : DE cX8_would 11 (.iconst (-1)) 1 := dop_2 (dn_w dw77_0 11 rfl)
theorem dX8_would_12 : DE cX8_would 12 (.ireturn) 1 := dop_172 (dn_w dw77_0 12 rfl)
theorem dX8_would_13 : DE cX8_would 13 (.aload_n 0) 1 := dop_42 (dn_w dw77_0 13 rfl)
theorem dX8_would_14 : DE cX8_would 14 (.getfield 10) 3 := dop_180 (dn_w dw77_0 14 rfl) rfl
theorem dX8_would_17 : DE cX8_would 17 (.invokevirtual 143) 3 := dop_182 (dn_w dw77_1 1 rfl) rfl
theorem dX8_would_20 : DE cX8_would 20 (.ifCond .eq 6) 3 := dop_153 (dn_w dw77_1 4 rfl) rfl
theorem dX8_would_23 : DE cX8_would 23 (.bipush (-4)) 2 := dop_16 (dn_w dw77_1 7 rfl) rfl
theorem dX8_would_25 : DE cX8_would 25 (.ireturn) 1 := dop_172 (dn_w dw77_1 9 rfl)
theorem dX8_would_26 : DE cX8_would 26 (.aload_n 0) 1 := dop_42 (dn_w dw77_1 10 rfl)
theorem dX8_would_27 : DE cX8_would 27 (.getfield 10) 3 := dop_180 (dn_w dw77_1 11 rfl) rfl
theorem dX8_would_30 : DE cX8_would 30 (.iload_n 1) 1 := dop_27 (dn_w dw77_1 14 rfl)
theorem dX8_would_31 : DE cX8_would 31 (.invokevirtual 147) 3 := dop_182 (dn_w dw77_1 15 rfl) rfl
theorem dX8_would_34 : DE cX8_would 34 (.ifCond .eq 7) 3 := dop_153 (dn_w dw77_2 2 rfl) rfl
theorem dX8_would_37 : DE cX8_would 37 (.iconst 1) 1 := dop_4 (dn_w dw77_2 5 rfl)
theorem dX8_would_38 : DE cX8_would 38 (.goto 4) 3 := dop_167 (dn_w dw77_2 6 rfl) rfl
theorem dX8_would_41 : DE cX8_would 41 (.iconst 0) 1 := dop_3 (dn_w dw77_2 9 rfl)
theorem dX8_would_42 : DE cX8_would 42 (.ireturn) 1 := dop_172 (dn_w dw77_2 10 rfl)
noncomputable def dt78_3 : List Nat := 0 :: 140 :: 172 :: []
noncomputable def dt78_2 : List Nat := 10 :: 182 :: 0 :: 150 :: 87 :: 132 :: 2 :: 1 :: 167 :: 255 :: 230 :: 42 :: 180 :: 0 :: 10 :: 180 :: dt78_3
noncomputable def dt78_1 : List Nat := 162 :: 0 :: 27 :: 42 :: 180 :: 0 :: 10 :: 182 :: 0 :: 143 :: 154 :: 0 :: 17 :: 42 :: 180 :: 0 :: dt78_2
noncomputable def dt78_0 : List Nat := 27 :: 155 :: 0 :: 9 :: 27 :: 16 :: 40 :: 164 :: 0 :: 5 :: 2 :: 172 :: 3 :: 61 :: 28 :: 27 :: dt78_1
theorem dw78_0 : dn cX8_days 0 = dt78_0 := by decide +kernel
theorem dw78_1 : dn cX8_days 16 = dt78_1 := dn_w dw78_0 16 rfl
theorem dw78_2 : dn cX8_days 32 = dt78_2 := dn_w dw78_1 16 rfl
theorem dw78_3 : dn cX8_days 48 = dt78_3 := dn_w dw78_2 16 rfl
theorem dX8_days_0 : DE cX8_days 0 (.iload_n 1) 1 := dop_27 (dn_w dw78_0 0 rfl)
theorem dX8_days_1 : DE cX8_days 1 (.ifCond .lt 9) 3 := dop_155 (dn_w dw78_0 1 rfl) rfl
theorem dX8_days_4 : DE cX8_days 4 (.iload_n 1) 1 := dop_27 (dn_w dw78_0 4 rfl)
theorem dX8_days_5 : DE cX8_days 5 (.bipush 40) 2 := dop_16 (dn_w dw78_0 5 rfl) rfl
theorem dX8_days_7 : DE cX8_days 7 (.if_icmp .le 5) 3 := dop_164 (dn_w dw78_0 7 rfl) rfl
theorem dX8_days_10 : DE cX8_days 10 (.iconst (-1)) 1 := dop_2 (dn_w dw78_0 10 rfl)
theorem dX8_days_11 : DE cX8_days 11 (.ireturn) 1 := dop_172 (dn_w dw78_0 11 rfl)
theorem dX8_days_12 : DE cX8_days 12 (.iconst 0) 1 := dop_3 (dn_w dw78_0 12 rfl)
theorem dX8_days_13 : DE cX8_days 13 (.istore_n 2) 1 := dop_61 (dn_w dw78_0 13 rfl)
theorem dX8_days_14 : DE cX8_days 14 (.iload_n 2) 1 := dop_28 (dn_w dw78_0 14 rfl)
theorem dX8_days_15 : DE cX8_days 15 (.iload_n 1) 1 := dop_27 (dn_w dw78_0 15 rfl)
theorem dX8_days_16 : DE cX8_days 16 (.if_icmp .ge 27) 3 := dop_162 (dn_w dw78_1 0 rfl) rfl
theorem dX8_days_19 : DE cX8_days 19 (.aload_n 0) 1 := dop_42 (dn_w dw78_1 3 rfl)
theorem dX8_days_20 : DE cX8_days 20 (.getfield 10) 3 := dop_180 (dn_w dw78_1 4 rfl) rfl
theorem dX8_days_23 : DE cX8_days 23 (.invokevirtual 143) 3 := dop_182 (dn_w dw78_1 7 rfl) rfl
theorem dX8_days_26 : DE cX8_days 26 (.ifCond .ne 17) 3 := dop_154 (dn_w dw78_1 10 rfl) rfl
theorem dX8_days_29 : DE cX8_days 29 (.aload_n 0) 1 := dop_42 (dn_w dw78_1 13 rfl)
theorem dX8_days_30 : DE cX8_days 30 (.getfield 10) 3 := dop_180 (dn_w dw78_1 14 rfl) rfl
theorem dX8_days_33 : DE cX8_days 33 (.invokevirtual 150) 3 := dop_182 (dn_w dw78_2 1 rfl) rfl
theorem dX8_days_36 : DE cX8_days 36 (.pop) 1 := dop_87 (dn_w dw78_2 4 rfl)
theorem dX8_days_37 : DE cX8_days 37 (.iinc 2 1) 3 := dop_132 (dn_w dw78_2 5 rfl) rfl
theorem dX8_days_40 : DE cX8_days 40 (.goto (-26)) 3 := dop_167 (dn_w dw78_2 8 rfl) rfl
theorem dX8_days_43 : DE cX8_days 43 (.aload_n 0) 1 := dop_42 (dn_w dw78_2 11 rfl)
theorem dX8_days_44 : DE cX8_days 44 (.getfield 10) 3 := dop_180 (dn_w dw78_2 12 rfl) rfl
theorem dX8_days_47 : DE cX8_days 47 (.getfield 140) 3 := dop_180 (dn_w dw78_2 15 rfl) rfl
theorem dX8_days_50 : DE cX8_days 50 (.ireturn) 1 := dop_172 (dn_w dw78_3 2 rfl)
noncomputable def dt79_1 : List Nat := 0 :: 4 :: 2 :: 172 :: []
noncomputable def dt79_0 : List Nat := 27 :: 184 :: 0 :: 95 :: 153 :: 0 :: 14 :: 42 :: 180 :: 0 :: 10 :: 27 :: 182 :: 0 :: 154 :: 167 :: dt79_1
theorem dw79_0 : dn cX8_knock 0 = dt79_0 := by decide +kernel
theorem dw79_1 : dn cX8_knock 16 = dt79_1 := dn_w dw79_0 16 rfl
theorem dX8_knock_0 : DE cX8_knock 0 (.iload_n 1) 1 := dop_27 (dn_w dw79_0 0 rfl)
theorem dX8_knock_1 : DE cX8_knock 1 (.invokestatic 95) 3 := dop_184 (dn_w dw79_0 1 rfl) rfl
theorem dX8_knock_4 : DE cX8_knock 4 (.ifCond .eq 14) 3 := dop_153 (dn_w dw79_0 4 rfl) rfl
theorem dX8_knock_7 : DE cX8_knock 7 (.aload_n 0) 1 := dop_42 (dn_w dw79_0 7 rfl)
theorem dX8_knock_8 : DE cX8_knock 8 (.getfield 10) 3 := dop_180 (dn_w dw79_0 8 rfl) rfl
theorem dX8_knock_11 : DE cX8_knock 11 (.iload_n 1) 1 := dop_27 (dn_w dw79_0 11 rfl)
theorem dX8_knock_12 : DE cX8_knock 12 (.invokevirtual 154) 3 := dop_182 (dn_w dw79_0 12 rfl) rfl
theorem dX8_knock_15 : DE cX8_knock 15 (.goto 4) 3 := dop_167 (dn_w dw79_0 15 rfl) rfl
theorem dX8_knock_18 : DE cX8_knock 18 (.iconst (-1)) 1 := dop_2 (dn_w dw79_1 2 rfl)
theorem dX8_knock_19 : DE cX8_knock 19 (.ireturn) 1 := dop_172 (dn_w dw79_1 3 rfl)
noncomputable def dt80_5 : List Nat := 0 :: 125 :: 27 :: 46 :: 21 :: 4 :: 159 :: 0 :: 7 :: 4 :: 167 :: 0 :: 4 :: 3 :: 172 :: []
noncomputable def dt80_4 : List Nat := 167 :: 0 :: 10 :: 21 :: 4 :: 21 :: 5 :: 2 :: 130 :: 126 :: 79 :: 42 :: 180 :: 0 :: 10 :: 180 :: dt80_5
noncomputable def dt80_3 : List Nat := 180 :: 0 :: 10 :: 180 :: 0 :: 125 :: 27 :: 29 :: 153 :: 0 :: 11 :: 21 :: 4 :: 21 :: 5 :: 128 :: dt80_4
noncomputable def dt80_2 : List Nat := 180 :: 0 :: 10 :: 180 :: 0 :: 125 :: 27 :: 46 :: 54 :: 4 :: 4 :: 28 :: 120 :: 54 :: 5 :: 42 :: dt80_3
noncomputable def dt80_1 : List Nat := 0 :: 14 :: 42 :: 180 :: 0 :: 10 :: 28 :: 182 :: 0 :: 102 :: 154 :: 0 :: 5 :: 2 :: 172 :: 42 :: dt80_2
noncomputable def dt80_0 : List Nat := 27 :: 184 :: 0 :: 119 :: 153 :: 0 :: 25 :: 27 :: 42 :: 180 :: 0 :: 10 :: 180 :: 0 :: 140 :: 162 :: dt80_1
theorem dw80_0 : dn cX8_write 0 = dt80_0 := by decide +kernel
theorem dw80_1 : dn cX8_write 16 = dt80_1 := dn_w dw80_0 16 rfl
theorem dw80_2 : dn cX8_write 32 = dt80_2 := dn_w dw80_1 16 rfl
theorem dw80_3 : dn cX8_write 48 = dt80_3 := dn_w dw80_2 16 rfl
theorem dw80_4 : dn cX8_write 64 = dt80_4 := dn_w dw80_3 16 rfl
theorem dw80_5 : dn cX8_write 80 = dt80_5 := dn_w dw80_4 16 rfl
theorem dX8_write_0 : DE cX8_write 0 (.iload_n 1) 1 := dop_27 (dn_w dw80_0 0 rfl)
theorem dX8_write_1 : DE cX8_write 1 (.invokestatic 119) 3 := dop_184 (dn_w dw80_0 1 rfl) rfl
theorem dX8_write_4 : DE cX8_write 4 (.ifCond .eq 25) 3 := dop_153 (dn_w dw80_0 4 rfl) rfl
theorem dX8_write_7 : DE cX8_write 7 (.iload_n 1) 1 := dop_27 (dn_w dw80_0 7 rfl)
theorem dX8_write_8 : DE cX8_write 8 (.aload_n 0) 1 := dop_42 (dn_w dw80_0 8 rfl)
theorem dX8_write_9 : DE cX8_write 9 (.getfield 10) 3 := dop_180 (dn_w dw80_0 9 rfl) rfl
theorem dX8_write_12 : DE cX8_write 12 (.getfield 140) 3 := dop_180 (dn_w dw80_0 12 rfl) rfl
theorem dX8_write_15 : DE cX8_write 15 (.if_icmp .ge 14) 3 := dop_162 (dn_w dw80_0 15 rfl) rfl
theorem dX8_write_18 : DE cX8_write 18 (.aload_n 0) 1 := dop_42 (dn_w dw80_1 2 rfl)
theorem dX8_write_19 : DE cX8_write 19 (.getfield 10) 3 := dop_180 (dn_w dw80_1 3 rfl) rfl
theorem dX8_write_22 : DE cX8_write 22 (.iload_n 2) 1 := dop_28 (dn_w dw80_1 6 rfl)
theorem dX8_write_23 : DE cX8_write 23 (.invokevirtual 102) 3 := dop_182 (dn_w dw80_1 7 rfl) rfl
theorem dX8_write_26 : DE cX8_write 26 (.ifCond .ne 5) 3 := dop_154 (dn_w dw80_1 10 rfl) rfl
theorem dX8_write_29 : DE cX8_write 29 (.iconst (-1)) 1 := dop_2 (dn_w dw80_1 13 rfl)
theorem dX8_write_30 : DE cX8_write 30 (.ireturn) 1 := dop_172 (dn_w dw80_1 14 rfl)
theorem dX8_write_31 : DE cX8_write 31 (.aload_n 0) 1 := dop_42 (dn_w dw80_1 15 rfl)
theorem dX8_write_32 : DE cX8_write 32 (.getfield 10) 3 := dop_180 (dn_w dw80_2 0 rfl) rfl
theorem dX8_write_35 : DE cX8_write 35 (.getfield 125) 3 := dop_180 (dn_w dw80_2 3 rfl) rfl
theorem dX8_write_38 : DE cX8_write 38 (.iload_n 1) 1 := dop_27 (dn_w dw80_2 6 rfl)
theorem dX8_write_39 : DE cX8_write 39 (.iaload) 1 := dop_46 (dn_w dw80_2 7 rfl)
theorem dX8_write_40 : DE cX8_write 40 (.istore 4) 2 := dop_54 (dn_w dw80_2 8 rfl)
theorem dX8_write_42 : DE cX8_write 42 (.iconst 1) 1 := dop_4 (dn_w dw80_2 10 rfl)
theorem dX8_write_43 : DE cX8_write 43 (.iload_n 2) 1 := dop_28 (dn_w dw80_2 11 rfl)
theorem dX8_write_44 : DE cX8_write 44 (.ishl) 1 := dop_120 (dn_w dw80_2 12 rfl)
theorem dX8_write_45 : DE cX8_write 45 (.istore 5) 2 := dop_54 (dn_w dw80_2 13 rfl)
theorem dX8_write_47 : DE cX8_write 47 (.aload_n 0) 1 := dop_42 (dn_w dw80_2 15 rfl)
theorem dX8_write_48 : DE cX8_write 48 (.getfield 10) 3 := dop_180 (dn_w dw80_3 0 rfl) rfl
theorem dX8_write_51 : DE cX8_write 51 (.getfield 125) 3 := dop_180 (dn_w dw80_3 3 rfl) rfl
theorem dX8_write_54 : DE cX8_write 54 (.iload_n 1) 1 := dop_27 (dn_w dw80_3 6 rfl)
theorem dX8_write_55 : DE cX8_write 55 (.iload_n 3) 1 := dop_29 (dn_w dw80_3 7 rfl)
theorem dX8_write_56 : DE cX8_write 56 (.ifCond .eq 11) 3 := dop_153 (dn_w dw80_3 8 rfl) rfl
theorem dX8_write_59 : DE cX8_write 59 (.iload 4) 2 := dop_21 (dn_w dw80_3 11 rfl)
theorem dX8_write_61 : DE cX8_write 61 (.iload 5) 2 := dop_21 (dn_w dw80_3 13 rfl)
theorem dX8_write_63 : DE cX8_write 63 (.ior) 1 := dop_128 (dn_w dw80_3 15 rfl)
theorem dX8_write_64 : DE cX8_write 64 (.goto 10) 3 := dop_167 (dn_w dw80_4 0 rfl) rfl
theorem dX8_write_67 : DE cX8_write 67 (.iload 4) 2 := dop_21 (dn_w dw80_4 3 rfl)
theorem dX8_write_69 : DE cX8_write 69 (.iload 5) 2 := dop_21 (dn_w dw80_4 5 rfl)
theorem dX8_write_71 : DE cX8_write 71 (.iconst (-1)) 1 := dop_2 (dn_w dw80_4 7 rfl)
theorem dX8_write_72 : DE cX8_write 72 (.ixor) 1 := dop_130 (dn_w dw80_4 8 rfl)
theorem dX8_write_73 : DE cX8_write 73 (.iand) 1 := dop_126 (dn_w dw80_4 9 rfl)
theorem dX8_write_74 : DE cX8_write 74 (.iastore) 1 := dop_79 (dn_w dw80_4 10 rfl)
theorem dX8_write_75 : DE cX8_write 75 (.aload_n 0) 1 := dop_42 (dn_w dw80_4 11 rfl)
theorem dX8_write_76 : DE cX8_write 76 (.getfield 10) 3 := dop_180 (dn_w dw80_4 12 rfl) rfl
theorem dX8_write_79 : DE cX8_write 79 (.getfield 125) 3 := dop_180 (dn_w dw80_4 15 rfl) rfl
theorem dX8_write_82 : DE cX8_write 82 (.iload_n 1) 1 := dop_27 (dn_w dw80_5 2 rfl)
theorem dX8_write_83 : DE cX8_write 83 (.iaload) 1 := dop_46 (dn_w dw80_5 3 rfl)
theorem dX8_write_84 : DE cX8_write 84 (.iload 4) 2 := dop_21 (dn_w dw80_5 4 rfl)
theorem dX8_write_86 : DE cX8_write 86 (.if_icmp .eq 7) 3 := dop_159 (dn_w dw80_5 6 rfl) rfl
theorem dX8_write_89 : DE cX8_write 89 (.iconst 1) 1 := dop_4 (dn_w dw80_5 9 rfl)
theorem dX8_write_90 : DE cX8_write 90 (.goto 4) 3 := dop_167 (dn_w dw80_5 10 rfl) rfl
theorem dX8_write_93 : DE cX8_write 93 (.iconst 0) 1 := dop_3 (dn_w dw80_5 13 rfl)
theorem dX8_write_94 : DE cX8_write 94 (.ireturn) 1 := dop_172 (dn_w dw80_5 14 rfl)
noncomputable def dt81_2 : List Nat := 153 :: 0 :: 6 :: 132 :: 2 :: 1 :: 132 :: 3 :: 1 :: 167 :: 255 :: 232 :: 28 :: 172 :: []
noncomputable def dt81_1 : List Nat := 62 :: 29 :: 16 :: 40 :: 162 :: 0 :: 24 :: 42 :: 180 :: 0 :: 10 :: 29 :: 27 :: 182 :: 0 :: 158 :: dt81_2
noncomputable def dt81_0 : List Nat := 42 :: 180 :: 0 :: 10 :: 27 :: 182 :: 0 :: 102 :: 154 :: 0 :: 5 :: 2 :: 172 :: 3 :: 61 :: 3 :: dt81_1
theorem dw81_0 : dn cX8_marks 0 = dt81_0 := by decide +kernel
theorem dw81_1 : dn cX8_marks 16 = dt81_1 := dn_w dw81_0 16 rfl
theorem dw81_2 : dn cX8_marks 32 = dt81_2 := dn_w dw81_1 16 rfl
theorem dX8_marks_0 : DE cX8_marks 0 (.aload_n 0) 1 := dop_42 (dn_w dw81_0 0 rfl)
theorem dX8_marks_1 : DE cX8_marks 1 (.getfield 10) 3 := dop_180 (dn_w dw81_0 1 rfl) rfl
theorem dX8_marks_4 : DE cX8_marks 4 (.iload_n 1) 1 := dop_27 (dn_w dw81_0 4 rfl)
theorem dX8_marks_5 : DE cX8_marks 5 (.invokevirtual 102) 3 := dop_182 (dn_w dw81_0 5 rfl) rfl
theorem dX8_marks_8 : DE cX8_marks 8 (.ifCond .ne 5) 3 := dop_154 (dn_w dw81_0 8 rfl) rfl
theorem dX8_marks_11 : DE cX8_marks 11 (.iconst (-1)) 1 := dop_2 (dn_w dw81_0 11 rfl)
theorem dX8_marks_12 : DE cX8_marks 12 (.ireturn) 1 := dop_172 (dn_w dw81_0 12 rfl)
theorem dX8_marks_13 : DE cX8_marks 13 (.iconst 0) 1 := dop_3 (dn_w dw81_0 13 rfl)
theorem dX8_marks_14 : DE cX8_marks 14 (.istore_n 2) 1 := dop_61 (dn_w dw81_0 14 rfl)
theorem dX8_marks_15 : DE cX8_marks 15 (.iconst 0) 1 := dop_3 (dn_w dw81_0 15 rfl)
theorem dX8_marks_16 : DE cX8_marks 16 (.istore_n 3) 1 := dop_62 (dn_w dw81_1 0 rfl)
theorem dX8_marks_17 : DE cX8_marks 17 (.iload_n 3) 1 := dop_29 (dn_w dw81_1 1 rfl)
theorem dX8_marks_18 : DE cX8_marks 18 (.bipush 40) 2 := dop_16 (dn_w dw81_1 2 rfl) rfl
theorem dX8_marks_20 : DE cX8_marks 20 (.if_icmp .ge 24) 3 := dop_162 (dn_w dw81_1 4 rfl) rfl
theorem dX8_marks_23 : DE cX8_marks 23 (.aload_n 0) 1 := dop_42 (dn_w dw81_1 7 rfl)
theorem dX8_marks_24 : DE cX8_marks 24 (.getfield 10) 3 := dop_180 (dn_w dw81_1 8 rfl) rfl
theorem dX8_marks_27 : DE cX8_marks 27 (.iload_n 3) 1 := dop_29 (dn_w dw81_1 11 rfl)
theorem dX8_marks_28 : DE cX8_marks 28 (.iload_n 1) 1 := dop_27 (dn_w dw81_1 12 rfl)
theorem dX8_marks_29 : DE cX8_marks 29 (.invokevirtual 158) 3 := dop_182 (dn_w dw81_1 13 rfl) rfl
theorem dX8_marks_32 : DE cX8_marks 32 (.ifCond .eq 6) 3 := dop_153 (dn_w dw81_2 0 rfl) rfl
theorem dX8_marks_35 : DE cX8_marks 35 (.iinc 2 1) 3 := dop_132 (dn_w dw81_2 3 rfl) rfl
theorem dX8_marks_38 : DE cX8_marks 38 (.iinc 3 1) 3 := dop_132 (dn_w dw81_2 6 rfl) rfl
theorem dX8_marks_41 : DE cX8_marks 41 (.goto (-24)) 3 := dop_167 (dn_w dw81_2 9 rfl) rfl
theorem dX8_marks_44 : DE cX8_marks 44 (.iload_n 2) 1 := dop_28 (dn_w dw81_2 12 rfl)
theorem dX8_marks_45 : DE cX8_marks 45 (.ireturn) 1 := dop_172 (dn_w dw81_2 13 rfl)
noncomputable def dt82_3 : List Nat := 182 :: 0 :: 168 :: 172 :: 2 :: 172 :: []
noncomputable def dt82_2 : List Nat := 182 :: 0 :: 162 :: 172 :: 42 :: 180 :: 0 :: 10 :: 182 :: 0 :: 165 :: 172 :: 42 :: 180 :: 0 :: 10 :: dt82_3
noncomputable def dt82_1 : List Nat := 0 :: 0 :: 0 :: 27 :: 0 :: 0 :: 0 :: 35 :: 0 :: 0 :: 0 :: 43 :: 42 :: 180 :: 0 :: 10 :: dt82_2
noncomputable def dt82_0 : List Nat := 27 :: 170 :: 0 :: 0 :: 0 :: 0 :: 0 :: 51 :: 0 :: 0 :: 0 :: 0 :: 0 :: 0 :: 0 :: 2 :: dt82_1
theorem dw82_0 : dn cX8_wrong 0 = dt82_0 := by decide +kernel
theorem dw82_1 : dn cX8_wrong 16 = dt82_1 := dn_w dw82_0 16 rfl
theorem dw82_2 : dn cX8_wrong 32 = dt82_2 := dn_w dw82_1 16 rfl
theorem dw82_3 : dn cX8_wrong 48 = dt82_3 := dn_w dw82_2 16 rfl
theorem dX8_wrong_0 : DE cX8_wrong 0 (.iload_n 1) 1 := dop_27 (dn_w dw82_0 0 rfl)
theorem dX8_wrong_1 : decode cX8_wrong 1 = .ok (.tableswitch 51 0 2 #[27, 35, 43], 27) := by decide +kernel
theorem dX8_wrong_28 : DE cX8_wrong 28 (.aload_n 0) 1 := dop_42 (dn_w dw82_1 12 rfl)
theorem dX8_wrong_29 : DE cX8_wrong 29 (.getfield 10) 3 := dop_180 (dn_w dw82_1 13 rfl) rfl
theorem dX8_wrong_32 : DE cX8_wrong 32 (.invokevirtual 162) 3 := dop_182 (dn_w dw82_2 0 rfl) rfl
theorem dX8_wrong_35 : DE cX8_wrong 35 (.ireturn) 1 := dop_172 (dn_w dw82_2 3 rfl)
theorem dX8_wrong_36 : DE cX8_wrong 36 (.aload_n 0) 1 := dop_42 (dn_w dw82_2 4 rfl)
theorem dX8_wrong_37 : DE cX8_wrong 37 (.getfield 10) 3 := dop_180 (dn_w dw82_2 5 rfl) rfl
theorem dX8_wrong_40 : DE cX8_wrong 40 (.invokevirtual 165) 3 := dop_182 (dn_w dw82_2 8 rfl) rfl
theorem dX8_wrong_43 : DE cX8_wrong 43 (.ireturn) 1 := dop_172 (dn_w dw82_2 11 rfl)
theorem dX8_wrong_44 : DE cX8_wrong 44 (.aload_n 0) 1 := dop_42 (dn_w dw82_2 12 rfl)
theorem dX8_wrong_45 : DE cX8_wrong 45 (.getfield 10) 3 := dop_180 (dn_w dw82_2 13 rfl) rfl
theorem dX8_wrong_48 : DE cX8_wrong 48 (.invokevirtual 168) 3 := dop_182 (dn_w dw82_3 0 rfl) rfl
theorem dX8_wrong_51 : DE cX8_wrong 51 (.ireturn) 1 := dop_172 (dn_w dw82_3 3 rfl)
theorem dX8_wrong_52 : DE cX8_wrong 52 (.iconst (-1)) 1 := dop_2 (dn_w dw82_3 4 rfl)
theorem dX8_wrong_53 : DE cX8_wrong 53 (.ireturn) 1 := dop_172 (dn_w dw82_3 5 rfl)
noncomputable def dt83_1 : List Nat := 182 :: 0 :: 171 :: 167 :: 0 :: 4 :: 2 :: 172 :: []
noncomputable def dt83_0 : List Nat := 42 :: 180 :: 0 :: 10 :: 27 :: 182 :: 0 :: 102 :: 153 :: 0 :: 14 :: 42 :: 180 :: 0 :: 10 :: 27 :: dt83_1
theorem dw83_0 : dn cX8_longest 0 = dt83_0 := by decide +kernel
theorem dw83_1 : dn cX8_longest 16 = dt83_1 := dn_w dw83_0 16 rfl
theorem dX8_longest_0 : DE cX8_longest 0 (.aload_n 0) 1 := dop_42 (dn_w dw83_0 0 rfl)
theorem dX8_longest_1 : DE cX8_longest 1 (.getfield 10) 3 := dop_180 (dn_w dw83_0 1 rfl) rfl
theorem dX8_longest_4 : DE cX8_longest 4 (.iload_n 1) 1 := dop_27 (dn_w dw83_0 4 rfl)
theorem dX8_longest_5 : DE cX8_longest 5 (.invokevirtual 102) 3 := dop_182 (dn_w dw83_0 5 rfl) rfl
theorem dX8_longest_8 : DE cX8_longest 8 (.ifCond .eq 14) 3 := dop_153 (dn_w dw83_0 8 rfl) rfl
theorem dX8_longest_11 : DE cX8_longest 11 (.aload_n 0) 1 := dop_42 (dn_w dw83_0 11 rfl)
theorem dX8_longest_12 : DE cX8_longest 12 (.getfield 10) 3 := dop_180 (dn_w dw83_0 12 rfl) rfl
theorem dX8_longest_15 : DE cX8_longest 15 (.iload_n 1) 1 := dop_27 (dn_w dw83_0 15 rfl)
theorem dX8_longest_16 : DE cX8_longest 16 (.invokevirtual 171) 3 := dop_182 (dn_w dw83_1 0 rfl) rfl
theorem dX8_longest_19 : DE cX8_longest 19 (.goto 4) 3 := dop_167 (dn_w dw83_1 3 rfl) rfl
theorem dX8_longest_22 : DE cX8_longest 22 (.iconst (-1)) 1 := dop_2 (dn_w dw83_1 6 rfl)
theorem dX8_longest_23 : DE cX8_longest 23 (.ireturn) 1 := dop_172 (dn_w dw83_1 7 rfl)
noncomputable def dt84_1 : List Nat := 27 :: 182 :: 0 :: 177 :: 167 :: 0 :: 4 :: 2 :: 172 :: []
noncomputable def dt84_0 : List Nat := 27 :: 184 :: 0 :: 174 :: 153 :: 0 :: 19 :: 42 :: 180 :: 0 :: 26 :: 42 :: 180 :: 0 :: 10 :: 3 :: dt84_1
theorem dw84_0 : dn cX8_there 0 = dt84_0 := by decide +kernel
theorem dw84_1 : dn cX8_there 16 = dt84_1 := dn_w dw84_0 16 rfl
theorem dX8_there_0 : DE cX8_there 0 (.iload_n 1) 1 := dop_27 (dn_w dw84_0 0 rfl)
theorem dX8_there_1 : DE cX8_there 1 (.invokestatic 174) 3 := dop_184 (dn_w dw84_0 1 rfl) rfl
theorem dX8_there_4 : DE cX8_there 4 (.ifCond .eq 19) 3 := dop_153 (dn_w dw84_0 4 rfl) rfl
theorem dX8_there_7 : DE cX8_there 7 (.aload_n 0) 1 := dop_42 (dn_w dw84_0 7 rfl)
theorem dX8_there_8 : DE cX8_there 8 (.getfield 26) 3 := dop_180 (dn_w dw84_0 8 rfl) rfl
theorem dX8_there_11 : DE cX8_there 11 (.aload_n 0) 1 := dop_42 (dn_w dw84_0 11 rfl)
theorem dX8_there_12 : DE cX8_there 12 (.getfield 10) 3 := dop_180 (dn_w dw84_0 12 rfl) rfl
theorem dX8_there_15 : DE cX8_there 15 (.iconst 0) 1 := dop_3 (dn_w dw84_0 15 rfl)
theorem dX8_there_16 : DE cX8_there 16 (.iload_n 1) 1 := dop_27 (dn_w dw84_1 0 rfl)
theorem dX8_there_17 : DE cX8_there 17 (.invokevirtual 177) 3 := dop_182 (dn_w dw84_1 1 rfl) rfl
theorem dX8_there_20 : DE cX8_there 20 (.goto 4) 3 := dop_167 (dn_w dw84_1 4 rfl) rfl
theorem dX8_there_23 : DE cX8_there 23 (.iconst (-1)) 1 := dop_2 (dn_w dw84_1 7 rfl)
theorem dX8_there_24 : DE cX8_there 24 (.ireturn) 1 := dop_172 (dn_w dw84_1 8 rfl)
noncomputable def dt85_4 : List Nat := 0 :: 177 :: 172 :: []
noncomputable def dt85_3 : List Nat := 4 :: 167 :: 0 :: 17 :: 42 :: 180 :: 0 :: 26 :: 42 :: 180 :: 0 :: 10 :: 21 :: 4 :: 28 :: 182 :: dt85_4
noncomputable def dt85_2 : List Nat := 42 :: 180 :: 0 :: 10 :: 27 :: 28 :: 182 :: 0 :: 181 :: 54 :: 4 :: 29 :: 154 :: 0 :: 8 :: 21 :: dt85_3
noncomputable def dt85_1 : List Nat := 12 :: 29 :: 155 :: 0 :: 8 :: 29 :: 4 :: 164 :: 0 :: 5 :: 2 :: 172 :: 42 :: 180 :: 0 :: 26 :: dt85_2
noncomputable def dt85_0 : List Nat := 27 :: 4 :: 161 :: 0 :: 24 :: 27 :: 6 :: 163 :: 0 :: 19 :: 28 :: 184 :: 0 :: 174 :: 153 :: 0 :: dt85_1
theorem dw85_0 : dn cX8_round 0 = dt85_0 := by decide +kernel
theorem dw85_1 : dn cX8_round 16 = dt85_1 := dn_w dw85_0 16 rfl
theorem dw85_2 : dn cX8_round 32 = dt85_2 := dn_w dw85_1 16 rfl
theorem dw85_3 : dn cX8_round 48 = dt85_3 := dn_w dw85_2 16 rfl
theorem dw85_4 : dn cX8_round 64 = dt85_4 := dn_w dw85_3 16 rfl
theorem dX8_round_0 : DE cX8_round 0 (.iload_n 1) 1 := dop_27 (dn_w dw85_0 0 rfl)
theorem dX8_round_1 : DE cX8_round 1 (.iconst 1) 1 := dop_4 (dn_w dw85_0 1 rfl)
theorem dX8_round_2 : DE cX8_round 2 (.if_icmp .lt 24) 3 := dop_161 (dn_w dw85_0 2 rfl) rfl
theorem dX8_round_5 : DE cX8_round 5 (.iload_n 1) 1 := dop_27 (dn_w dw85_0 5 rfl)
theorem dX8_round_6 : DE cX8_round 6 (.iconst 3) 1 := dop_6 (dn_w dw85_0 6 rfl)
theorem dX8_round_7 : DE cX8_round 7 (.if_icmp .gt 19) 3 := dop_163 (dn_w dw85_0 7 rfl) rfl
theorem dX8_round_10 : DE cX8_round 10 (.iload_n 2) 1 := dop_28 (dn_w dw85_0 10 rfl)
theorem dX8_round_11 : DE cX8_round 11 (.invokestatic 174) 3 := dop_184 (dn_w dw85_0 11 rfl) rfl
theorem dX8_round_14 : DE cX8_round 14 (.ifCond .eq 12) 3 := dop_153 (dn_w dw85_0 14 rfl) rfl
theorem dX8_round_17 : DE cX8_round 17 (.iload_n 3) 1 := dop_29 (dn_w dw85_1 1 rfl)
theorem dX8_round_18 : DE cX8_round 18 (.ifCond .lt 8) 3 := dop_155 (dn_w dw85_1 2 rfl) rfl
theorem dX8_round_21 : DE cX8_round 21 (.iload_n 3) 1 := dop_29 (dn_w dw85_1 5 rfl)
theorem dX8_round_22 : DE cX8_round 22 (.iconst 1) 1 := dop_4 (dn_w dw85_1 6 rfl)
theorem dX8_round_23 : DE cX8_round 23 (.if_icmp .le 5) 3 := dop_164 (dn_w dw85_1 7 rfl) rfl
theorem dX8_round_26 : DE cX8_round 26 (.iconst (-1)) 1 := dop_2 (dn_w dw85_1 10 rfl)
theorem dX8_round_27 : DE cX8_round 27 (.ireturn) 1 := dop_172 (dn_w dw85_1 11 rfl)
theorem dX8_round_28 : DE cX8_round 28 (.aload_n 0) 1 := dop_42 (dn_w dw85_1 12 rfl)
theorem dX8_round_29 : DE cX8_round 29 (.getfield 26) 3 := dop_180 (dn_w dw85_1 13 rfl) rfl
theorem dX8_round_32 : DE cX8_round 32 (.aload_n 0) 1 := dop_42 (dn_w dw85_2 0 rfl)
theorem dX8_round_33 : DE cX8_round 33 (.getfield 10) 3 := dop_180 (dn_w dw85_2 1 rfl) rfl
theorem dX8_round_36 : DE cX8_round 36 (.iload_n 1) 1 := dop_27 (dn_w dw85_2 4 rfl)
theorem dX8_round_37 : DE cX8_round 37 (.iload_n 2) 1 := dop_28 (dn_w dw85_2 5 rfl)
theorem dX8_round_38 : DE cX8_round 38 (.invokevirtual 181) 3 := dop_182 (dn_w dw85_2 6 rfl) rfl
theorem dX8_round_41 : DE cX8_round 41 (.istore 4) 2 := dop_54 (dn_w dw85_2 9 rfl)
theorem dX8_round_43 : DE cX8_round 43 (.iload_n 3) 1 := dop_29 (dn_w dw85_2 11 rfl)
theorem dX8_round_44 : DE cX8_round 44 (.ifCond .ne 8) 3 := dop_154 (dn_w dw85_2 12 rfl) rfl
theorem dX8_round_47 : DE cX8_round 47 (.iload 4) 2 := dop_21 (dn_w dw85_2 15 rfl)
theorem dX8_round_49 : DE cX8_round 49 (.goto 17) 3 := dop_167 (dn_w dw85_3 1 rfl) rfl
theorem dX8_round_52 : DE cX8_round 52 (.aload_n 0) 1 := dop_42 (dn_w dw85_3 4 rfl)
theorem dX8_round_53 : DE cX8_round 53 (.getfield 26) 3 := dop_180 (dn_w dw85_3 5 rfl) rfl
theorem dX8_round_56 : DE cX8_round 56 (.aload_n 0) 1 := dop_42 (dn_w dw85_3 8 rfl)
theorem dX8_round_57 : DE cX8_round 57 (.getfield 10) 3 := dop_180 (dn_w dw85_3 9 rfl) rfl
theorem dX8_round_60 : DE cX8_round 60 (.iload 4) 2 := dop_21 (dn_w dw85_3 12 rfl)
theorem dX8_round_62 : DE cX8_round 62 (.iload_n 2) 1 := dop_28 (dn_w dw85_3 14 rfl)
theorem dX8_round_63 : DE cX8_round 63 (.invokevirtual 177) 3 := dop_182 (dn_w dw85_3 15 rfl) rfl
theorem dX8_round_66 : DE cX8_round 66 (.ireturn) 1 := dop_172 (dn_w dw85_4 2 rfl)
noncomputable def dt86_1 : List Nat := 180 :: 0 :: 10 :: 27 :: 182 :: 0 :: 184 :: 167 :: 0 :: 4 :: 2 :: 172 :: []
noncomputable def dt86_0 : List Nat := 42 :: 180 :: 0 :: 10 :: 27 :: 182 :: 0 :: 102 :: 153 :: 0 :: 18 :: 42 :: 180 :: 0 :: 26 :: 42 :: dt86_1
theorem dw86_0 : dn cX8_good 0 = dt86_0 := by decide +kernel
theorem dw86_1 : dn cX8_good 16 = dt86_1 := dn_w dw86_0 16 rfl
theorem dX8_good_0 : DE cX8_good 0 (.aload_n 0) 1 := dop_42 (dn_w dw86_0 0 rfl)
theorem dX8_good_1 : DE cX8_good 1 (.getfield 10) 3 := dop_180 (dn_w dw86_0 1 rfl) rfl
theorem dX8_good_4 : DE cX8_good 4 (.iload_n 1) 1 := dop_27 (dn_w dw86_0 4 rfl)
theorem dX8_good_5 : DE cX8_good 5 (.invokevirtual 102) 3 := dop_182 (dn_w dw86_0 5 rfl) rfl
theorem dX8_good_8 : DE cX8_good 8 (.ifCond .eq 18) 3 := dop_153 (dn_w dw86_0 8 rfl) rfl
theorem dX8_good_11 : DE cX8_good 11 (.aload_n 0) 1 := dop_42 (dn_w dw86_0 11 rfl)
theorem dX8_good_12 : DE cX8_good 12 (.getfield 26) 3 := dop_180 (dn_w dw86_0 12 rfl) rfl
theorem dX8_good_15 : DE cX8_good 15 (.aload_n 0) 1 := dop_42 (dn_w dw86_0 15 rfl)
theorem dX8_good_16 : DE cX8_good 16 (.getfield 10) 3 := dop_180 (dn_w dw86_1 0 rfl) rfl
theorem dX8_good_19 : DE cX8_good 19 (.iload_n 1) 1 := dop_27 (dn_w dw86_1 3 rfl)
theorem dX8_good_20 : DE cX8_good 20 (.invokevirtual 184) 3 := dop_182 (dn_w dw86_1 4 rfl) rfl
theorem dX8_good_23 : DE cX8_good 23 (.goto 4) 3 := dop_167 (dn_w dw86_1 7 rfl) rfl
theorem dX8_good_26 : DE cX8_good 26 (.iconst (-1)) 1 := dop_2 (dn_w dw86_1 10 rfl)
theorem dX8_good_27 : DE cX8_good 27 (.ireturn) 1 := dop_172 (dn_w dw86_1 11 rfl)
noncomputable def dt87_3 : List Nat := 28 :: 120 :: 128 :: 29 :: 182 :: 0 :: 188 :: 172 :: []
noncomputable def dt87_2 : List Nat := 0 :: 5 :: 2 :: 172 :: 42 :: 180 :: 0 :: 26 :: 42 :: 180 :: 0 :: 10 :: 4 :: 27 :: 120 :: 4 :: dt87_3
noncomputable def dt87_1 : List Nat := 182 :: 0 :: 102 :: 153 :: 0 :: 15 :: 27 :: 28 :: 159 :: 0 :: 10 :: 29 :: 184 :: 0 :: 174 :: 154 :: dt87_2
noncomputable def dt87_0 : List Nat := 42 :: 180 :: 0 :: 10 :: 27 :: 182 :: 0 :: 102 :: 153 :: 0 :: 26 :: 42 :: 180 :: 0 :: 10 :: 28 :: dt87_1
theorem dw87_0 : dn cX8_meet 0 = dt87_0 := by decide +kernel
theorem dw87_1 : dn cX8_meet 16 = dt87_1 := dn_w dw87_0 16 rfl
theorem dw87_2 : dn cX8_meet 32 = dt87_2 := dn_w dw87_1 16 rfl
theorem dw87_3 : dn cX8_meet 48 = dt87_3 := dn_w dw87_2 16 rfl
theorem dX8_meet_0 : DE cX8_meet 0 (.aload_n 0) 1 := dop_42 (dn_w dw87_0 0 rfl)
theorem dX8_meet_1 : DE cX8_meet 1 (.getfield 10) 3 := dop_180 (dn_w dw87_0 1 rfl) rfl
theorem dX8_meet_4 : DE cX8_meet 4 (.iload_n 1) 1 := dop_27 (dn_w dw87_0 4 rfl)
theorem dX8_meet_5 : DE cX8_meet 5 (.invokevirtual 102) 3 := dop_182 (dn_w dw87_0 5 rfl) rfl
theorem dX8_meet_8 : DE cX8_meet 8 (.ifCond .eq 26) 3 := dop_153 (dn_w dw87_0 8 rfl) rfl
theorem dX8_meet_11 : DE cX8_meet 11 (.aload_n 0) 1 := dop_42 (dn_w dw87_0 11 rfl)
theorem dX8_meet_12 : DE cX8_meet 12 (.getfield 10) 3 := dop_180 (dn_w dw87_0 12 rfl) rfl
theorem dX8_meet_15 : DE cX8_meet 15 (.iload_n 2) 1 := dop_28 (dn_w dw87_0 15 rfl)
theorem dX8_meet_16 : DE cX8_meet 16 (.invokevirtual 102) 3 := dop_182 (dn_w dw87_1 0 rfl) rfl
theorem dX8_meet_19 : DE cX8_meet 19 (.ifCond .eq 15) 3 := dop_153 (dn_w dw87_1 3 rfl) rfl
theorem dX8_meet_22 : DE cX8_meet 22 (.iload_n 1) 1 := dop_27 (dn_w dw87_1 6 rfl)
theorem dX8_meet_23 : DE cX8_meet 23 (.iload_n 2) 1 := dop_28 (dn_w dw87_1 7 rfl)
theorem dX8_meet_24 : DE cX8_meet 24 (.if_icmp .eq 10) 3 := dop_159 (dn_w dw87_1 8 rfl) rfl
theorem dX8_meet_27 : DE cX8_meet 27 (.iload_n 3) 1 := dop_29 (dn_w dw87_1 11 rfl)
theorem dX8_meet_28 : DE cX8_meet 28 (.invokestatic 174) 3 := dop_184 (dn_w dw87_1 12 rfl) rfl
theorem dX8_meet_31 : DE cX8_meet 31 (.ifCond .ne 5) 3 := dop_154 (dn_w dw87_1 15 rfl) rfl
theorem dX8_meet_34 : DE cX8_meet 34 (.iconst (-1)) 1 := dop_2 (dn_w dw87_2 2 rfl)
theorem dX8_meet_35 : DE cX8_meet 35 (.ireturn) 1 := dop_172 (dn_w dw87_2 3 rfl)
theorem dX8_meet_36 : DE cX8_meet 36 (.aload_n 0) 1 := dop_42 (dn_w dw87_2 4 rfl)
theorem dX8_meet_37 : DE cX8_meet 37 (.getfield 26) 3 := dop_180 (dn_w dw87_2 5 rfl) rfl
theorem dX8_meet_40 : DE cX8_meet 40 (.aload_n 0) 1 := dop_42 (dn_w dw87_2 8 rfl)
theorem dX8_meet_41 : DE cX8_meet 41 (.getfield 10) 3 := dop_180 (dn_w dw87_2 9 rfl) rfl
theorem dX8_meet_44 : DE cX8_meet 44 (.iconst 1) 1 := dop_4 (dn_w dw87_2 12 rfl)
theorem dX8_meet_45 : DE cX8_meet 45 (.iload_n 1) 1 := dop_27 (dn_w dw87_2 13 rfl)
theorem dX8_meet_46 : DE cX8_meet 46 (.ishl) 1 := dop_120 (dn_w dw87_2 14 rfl)
theorem dX8_meet_47 : DE cX8_meet 47 (.iconst 1) 1 := dop_4 (dn_w dw87_2 15 rfl)
theorem dX8_meet_48 : DE cX8_meet 48 (.iload_n 2) 1 := dop_28 (dn_w dw87_3 0 rfl)
theorem dX8_meet_49 : DE cX8_meet 49 (.ishl) 1 := dop_120 (dn_w dw87_3 1 rfl)
theorem dX8_meet_50 : DE cX8_meet 50 (.ior) 1 := dop_128 (dn_w dw87_3 2 rfl)
theorem dX8_meet_51 : DE cX8_meet 51 (.iload_n 3) 1 := dop_29 (dn_w dw87_3 3 rfl)
theorem dX8_meet_52 : DE cX8_meet 52 (.invokevirtual 188) 3 := dop_182 (dn_w dw87_3 4 rfl) rfl
theorem dX8_meet_55 : DE cX8_meet 55 (.ireturn) 1 := dop_172 (dn_w dw87_3 7 rfl)
noncomputable def dt88_1 : List Nat := 42 :: 180 :: 0 :: 10 :: 27 :: 182 :: 0 :: 191 :: 167 :: 0 :: 4 :: 2 :: 172 :: []
noncomputable def dt88_0 : List Nat := 27 :: 4 :: 161 :: 0 :: 25 :: 27 :: 184 :: 0 :: 174 :: 153 :: 0 :: 18 :: 42 :: 180 :: 0 :: 26 :: dt88_1
theorem dw88_0 : dn cX8_least 0 = dt88_0 := by decide +kernel
theorem dw88_1 : dn cX8_least 16 = dt88_1 := dn_w dw88_0 16 rfl
theorem dX8_least_0 : DE cX8_least 0 (.iload_n 1) 1 := dop_27 (dn_w dw88_0 0 rfl)
theorem dX8_least_1 : DE cX8_least 1 (.iconst 1) 1 := dop_4 (dn_w dw88_0 1 rfl)
theorem dX8_least_2 : DE cX8_least 2 (.if_icmp .lt 25) 3 := dop_161 (dn_w dw88_0 2 rfl) rfl
theorem dX8_least_5 : DE cX8_least 5 (.iload_n 1) 1 := dop_27 (dn_w dw88_0 5 rfl)
theorem dX8_least_6 : DE cX8_least 6 (.invokestatic 174) 3 := dop_184 (dn_w dw88_0 6 rfl) rfl
theorem dX8_least_9 : DE cX8_least 9 (.ifCond .eq 18) 3 := dop_153 (dn_w dw88_0 9 rfl) rfl
theorem dX8_least_12 : DE cX8_least 12 (.aload_n 0) 1 := dop_42 (dn_w dw88_0 12 rfl)
theorem dX8_least_13 : DE cX8_least 13 (.getfield 26) 3 := dop_180 (dn_w dw88_0 13 rfl) rfl
theorem dX8_least_16 : DE cX8_least 16 (.aload_n 0) 1 := dop_42 (dn_w dw88_1 0 rfl)
theorem dX8_least_17 : DE cX8_least 17 (.getfield 10) 3 := dop_180 (dn_w dw88_1 1 rfl) rfl
theorem dX8_least_20 : DE cX8_least 20 (.iload_n 1) 1 := dop_27 (dn_w dw88_1 4 rfl)
theorem dX8_least_21 : DE cX8_least 21 (.invokevirtual 191) 3 := dop_182 (dn_w dw88_1 5 rfl) rfl
theorem dX8_least_24 : DE cX8_least 24 (.goto 4) 3 := dop_167 (dn_w dw88_1 8 rfl) rfl
theorem dX8_least_27 : DE cX8_least 27 (.iconst (-1)) 1 := dop_2 (dn_w dw88_1 11 rfl)
theorem dX8_least_28 : DE cX8_least 28 (.ireturn) 1 := dop_172 (dn_w dw88_1 12 rfl)
noncomputable def dt89_1 : List Nat := 182 :: 0 :: 194 :: 167 :: 0 :: 4 :: 2 :: 172 :: []
noncomputable def dt89_0 : List Nat := 42 :: 180 :: 0 :: 10 :: 27 :: 182 :: 0 :: 102 :: 153 :: 0 :: 14 :: 42 :: 180 :: 0 :: 10 :: 27 :: dt89_1
theorem dw89_0 : dn cX8_fits 0 = dt89_0 := by decide +kernel
theorem dw89_1 : dn cX8_fits 16 = dt89_1 := dn_w dw89_0 16 rfl
theorem dX8_fits_0 : DE cX8_fits 0 (.aload_n 0) 1 := dop_42 (dn_w dw89_0 0 rfl)
theorem dX8_fits_1 : DE cX8_fits 1 (.getfield 10) 3 := dop_180 (dn_w dw89_0 1 rfl) rfl
theorem dX8_fits_4 : DE cX8_fits 4 (.iload_n 1) 1 := dop_27 (dn_w dw89_0 4 rfl)
theorem dX8_fits_5 : DE cX8_fits 5 (.invokevirtual 102) 3 := dop_182 (dn_w dw89_0 5 rfl) rfl
theorem dX8_fits_8 : DE cX8_fits 8 (.ifCond .eq 14) 3 := dop_153 (dn_w dw89_0 8 rfl) rfl
theorem dX8_fits_11 : DE cX8_fits 11 (.aload_n 0) 1 := dop_42 (dn_w dw89_0 11 rfl)
theorem dX8_fits_12 : DE cX8_fits 12 (.getfield 10) 3 := dop_180 (dn_w dw89_0 12 rfl) rfl
theorem dX8_fits_15 : DE cX8_fits 15 (.iload_n 1) 1 := dop_27 (dn_w dw89_0 15 rfl)
theorem dX8_fits_16 : DE cX8_fits 16 (.invokevirtual 194) 3 := dop_182 (dn_w dw89_1 0 rfl) rfl
theorem dX8_fits_19 : DE cX8_fits 19 (.goto 4) 3 := dop_167 (dn_w dw89_1 3 rfl) rfl
theorem dX8_fits_22 : DE cX8_fits 22 (.iconst (-1)) 1 := dop_2 (dn_w dw89_1 6 rfl)
theorem dX8_fits_23 : DE cX8_fits 23 (.ireturn) 1 := dop_172 (dn_w dw89_1 7 rfl)
noncomputable def dt90_1 : List Nat := 28 :: 172 :: []
noncomputable def dt90_0 : List Nat := 42 :: 180 :: 0 :: 10 :: 180 :: 0 :: 197 :: 61 :: 42 :: 180 :: 0 :: 10 :: 27 :: 181 :: 0 :: 197 :: dt90_1
theorem dw90_0 : dn cX8_seed 0 = dt90_0 := by decide +kernel
theorem dw90_1 : dn cX8_seed 16 = dt90_1 := dn_w dw90_0 16 rfl
theorem dX8_seed_0 : DE cX8_seed 0 (.aload_n 0) 1 := dop_42 (dn_w dw90_0 0 rfl)
theorem dX8_seed_1 : DE cX8_seed 1 (.getfield 10) 3 := dop_180 (dn_w dw90_0 1 rfl) rfl
theorem dX8_seed_4 : DE cX8_seed 4 (.getfield 197) 3 := dop_180 (dn_w dw90_0 4 rfl) rfl
theorem dX8_seed_7 : DE cX8_seed 7 (.istore_n 2) 1 := dop_61 (dn_w dw90_0 7 rfl)
theorem dX8_seed_8 : DE cX8_seed 8 (.aload_n 0) 1 := dop_42 (dn_w dw90_0 8 rfl)
theorem dX8_seed_9 : DE cX8_seed 9 (.getfield 10) 3 := dop_180 (dn_w dw90_0 9 rfl) rfl
theorem dX8_seed_12 : DE cX8_seed 12 (.iload_n 1) 1 := dop_27 (dn_w dw90_0 12 rfl)
theorem dX8_seed_13 : DE cX8_seed 13 (.putfield 197) 3 := dop_181 (dn_w dw90_0 13 rfl) rfl
theorem dX8_seed_16 : DE cX8_seed 16 (.iload_n 2) 1 := dop_28 (dn_w dw90_1 0 rfl)
theorem dX8_seed_17 : DE cX8_seed 17 (.ireturn) 1 := dop_172 (dn_w dw90_1 1 rfl)
noncomputable def dt91_2 : List Nat := 0 :: 10 :: 182 :: 0 :: 200 :: 182 :: 0 :: 203 :: 172 :: []
noncomputable def dt91_1 : List Nat := 10 :: 182 :: 0 :: 143 :: 153 :: 0 :: 6 :: 16 :: 252 :: 172 :: 42 :: 180 :: 0 :: 10 :: 42 :: 180 :: dt91_2
noncomputable def dt91_0 : List Nat := 42 :: 180 :: 0 :: 10 :: 180 :: 0 :: 87 :: 154 :: 0 :: 6 :: 16 :: 253 :: 172 :: 42 :: 180 :: 0 :: dt91_1
theorem dw91_0 : dn cX8_draw 0 = dt91_0 := by decide +kernel
theorem dw91_1 : dn cX8_draw 16 = dt91_1 := dn_w dw91_0 16 rfl
theorem dw91_2 : dn cX8_draw 32 = dt91_2 := dn_w dw91_1 16 rfl
theorem dX8_draw_0 : DE cX8_draw 0 (.aload_n 0) 1 := dop_42 (dn_w dw91_0 0 rfl)
theorem dX8_draw_1 : DE cX8_draw 1 (.getfield 10) 3 := dop_180 (dn_w dw91_0 1 rfl) rfl
theorem dX8_draw_4 : DE cX8_draw 4 (.getfield 87) 3 := dop_180 (dn_w dw91_0 4 rfl) rfl
theorem dX8_draw_7 : DE cX8_draw 7 (.ifCond .ne 6) 3 := dop_154 (dn_w dw91_0 7 rfl) rfl
theorem dX8_draw_10 : DE cX8_draw 10 (.bipush (-3)) 2 := dop_16 (dn_w dw91_0 10 rfl) rfl
theorem dX8_draw_12 : DE cX8_draw 12 (.ireturn) 1 := dop_172 (dn_w dw91_0 12 rfl)
theorem dX8_draw_13 : DE cX8_draw 13 (.aload_n 0) 1 := dop_42 (dn_w dw91_0 13 rfl)
theorem dX8_draw_14 : DE cX8_draw 14 (.getfield 10) 3 := dop_180 (dn_w dw91_0 14 rfl) rfl
theorem dX8_draw_17 : DE cX8_draw 17 (.invokevirtual 143) 3 := dop_182 (dn_w dw91_1 1 rfl) rfl
theorem dX8_draw_20 : DE cX8_draw 20 (.ifCond .eq 6) 3 := dop_153 (dn_w dw91_1 4 rfl) rfl
theorem dX8_draw_23 : DE cX8_draw 23 (.bipush (-4)) 2 := dop_16 (dn_w dw91_1 7 rfl) rfl
theorem dX8_draw_25 : DE cX8_draw 25 (.ireturn) 1 := dop_172 (dn_w dw91_1 9 rfl)
theorem dX8_draw_26 : DE cX8_draw 26 (.aload_n 0) 1 := dop_42 (dn_w dw91_1 10 rfl)
theorem dX8_draw_27 : DE cX8_draw 27 (.getfield 10) 3 := dop_180 (dn_w dw91_1 11 rfl) rfl
theorem dX8_draw_30 : DE cX8_draw 30 (.aload_n 0) 1 := dop_42 (dn_w dw91_1 14 rfl)
theorem dX8_draw_31 : DE cX8_draw 31 (.getfield 10) 3 := dop_180 (dn_w dw91_1 15 rfl) rfl
theorem dX8_draw_34 : DE cX8_draw 34 (.invokevirtual 200) 3 := dop_182 (dn_w dw91_2 2 rfl) rfl
theorem dX8_draw_37 : DE cX8_draw 37 (.invokevirtual 203) 3 := dop_182 (dn_w dw91_2 5 rfl) rfl
theorem dX8_draw_40 : DE cX8_draw 40 (.ireturn) 1 := dop_172 (dn_w dw91_2 8 rfl)
noncomputable def dt92_2 : List Nat := 0 :: 40 :: 180 :: 0 :: 84 :: 172 :: []
noncomputable def dt92_1 : List Nat := 0 :: 26 :: 42 :: 180 :: 0 :: 10 :: 42 :: 180 :: 0 :: 40 :: 27 :: 182 :: 0 :: 206 :: 42 :: 180 :: dt92_2
noncomputable def dt92_0 : List Nat := 27 :: 4 :: 161 :: 0 :: 10 :: 27 :: 184 :: 0 :: 174 :: 154 :: 0 :: 5 :: 2 :: 172 :: 42 :: 180 :: dt92_1
theorem dw92_0 : dn cX8_prove 0 = dt92_0 := by decide +kernel
theorem dw92_1 : dn cX8_prove 16 = dt92_1 := dn_w dw92_0 16 rfl
theorem dw92_2 : dn cX8_prove 32 = dt92_2 := dn_w dw92_1 16 rfl
theorem dX8_prove_0 : DE cX8_prove 0 (.iload_n 1) 1 := dop_27 (dn_w dw92_0 0 rfl)
theorem dX8_prove_1 : DE cX8_prove 1 (.iconst 1) 1 := dop_4 (dn_w dw92_0 1 rfl)
theorem dX8_prove_2 : DE cX8_prove 2 (.if_icmp .lt 10) 3 := dop_161 (dn_w dw92_0 2 rfl) rfl
theorem dX8_prove_5 : DE cX8_prove 5 (.iload_n 1) 1 := dop_27 (dn_w dw92_0 5 rfl)
theorem dX8_prove_6 : DE cX8_prove 6 (.invokestatic 174) 3 := dop_184 (dn_w dw92_0 6 rfl) rfl
theorem dX8_prove_9 : DE cX8_prove 9 (.ifCond .ne 5) 3 := dop_154 (dn_w dw92_0 9 rfl) rfl
theorem dX8_prove_12 : DE cX8_prove 12 (.iconst (-1)) 1 := dop_2 (dn_w dw92_0 12 rfl)
theorem dX8_prove_13 : DE cX8_prove 13 (.ireturn) 1 := dop_172 (dn_w dw92_0 13 rfl)
theorem dX8_prove_14 : DE cX8_prove 14 (.aload_n 0) 1 := dop_42 (dn_w dw92_0 14 rfl)
theorem dX8_prove_15 : DE cX8_prove 15 (.getfield 26) 3 := dop_180 (dn_w dw92_0 15 rfl) rfl
theorem dX8_prove_18 : DE cX8_prove 18 (.aload_n 0) 1 := dop_42 (dn_w dw92_1 2 rfl)
theorem dX8_prove_19 : DE cX8_prove 19 (.getfield 10) 3 := dop_180 (dn_w dw92_1 3 rfl) rfl
theorem dX8_prove_22 : DE cX8_prove 22 (.aload_n 0) 1 := dop_42 (dn_w dw92_1 6 rfl)
theorem dX8_prove_23 : DE cX8_prove 23 (.getfield 40) 3 := dop_180 (dn_w dw92_1 7 rfl) rfl
theorem dX8_prove_26 : DE cX8_prove 26 (.iload_n 1) 1 := dop_27 (dn_w dw92_1 10 rfl)
theorem dX8_prove_27 : DE cX8_prove 27 (.invokevirtual 206) 3 := dop_182 (dn_w dw92_1 11 rfl) rfl
theorem dX8_prove_30 : DE cX8_prove 30 (.aload_n 0) 1 := dop_42 (dn_w dw92_1 14 rfl)
theorem dX8_prove_31 : DE cX8_prove 31 (.getfield 40) 3 := dop_180 (dn_w dw92_1 15 rfl) rfl
theorem dX8_prove_34 : DE cX8_prove 34 (.getfield 84) 3 := dop_180 (dn_w dw92_2 2 rfl) rfl
theorem dX8_prove_37 : DE cX8_prove 37 (.ireturn) 1 := dop_172 (dn_w dw92_2 5 rfl)
noncomputable def dt93_1 : List Nat := 167 :: 0 :: 12 :: 42 :: 180 :: 0 :: 40 :: 180 :: 0 :: 213 :: 29 :: 46 :: 172 :: []
noncomputable def dt93_0 : List Nat := 42 :: 180 :: 0 :: 40 :: 27 :: 28 :: 182 :: 0 :: 210 :: 62 :: 29 :: 156 :: 0 :: 8 :: 16 :: 247 :: dt93_1
theorem dw93_0 : dn cX8_row 0 = dt93_0 := by decide +kernel
theorem dw93_1 : dn cX8_row 16 = dt93_1 := dn_w dw93_0 16 rfl
theorem dX8_row_0 : DE cX8_row 0 (.aload_n 0) 1 := dop_42 (dn_w dw93_0 0 rfl)
theorem dX8_row_1 : DE cX8_row 1 (.getfield 40) 3 := dop_180 (dn_w dw93_0 1 rfl) rfl
theorem dX8_row_4 : DE cX8_row 4 (.iload_n 1) 1 := dop_27 (dn_w dw93_0 4 rfl)
theorem dX8_row_5 : DE cX8_row 5 (.iload_n 2) 1 := dop_28 (dn_w dw93_0 5 rfl)
theorem dX8_row_6 : DE cX8_row 6 (.invokevirtual 210) 3 := dop_182 (dn_w dw93_0 6 rfl) rfl
theorem dX8_row_9 : DE cX8_row 9 (.istore_n 3) 1 := dop_62 (dn_w dw93_0 9 rfl)
theorem dX8_row_10 : DE cX8_row 10 (.iload_n 3) 1 := dop_29 (dn_w dw93_0 10 rfl)
theorem dX8_row_11 : DE cX8_row 11 (.ifCond .ge 8) 3 := dop_156 (dn_w dw93_0 11 rfl) rfl
theorem dX8_row_14 : DE cX8_row 14 (.bipush (-9)) 2 := dop_16 (dn_w dw93_0 14 rfl) rfl
theorem dX8_row_16 : DE cX8_row 16 (.goto 12) 3 := dop_167 (dn_w dw93_1 0 rfl) rfl
theorem dX8_row_19 : DE cX8_row 19 (.aload_n 0) 1 := dop_42 (dn_w dw93_1 3 rfl)
theorem dX8_row_20 : DE cX8_row 20 (.getfield 40) 3 := dop_180 (dn_w dw93_1 4 rfl) rfl
theorem dX8_row_23 : DE cX8_row 23 (.getfield 213) 3 := dop_180 (dn_w dw93_1 7 rfl) rfl
theorem dX8_row_26 : DE cX8_row 26 (.iload_n 3) 1 := dop_29 (dn_w dw93_1 10 rfl)
theorem dX8_row_27 : DE cX8_row 27 (.iaload) 1 := dop_46 (dn_w dw93_1 11 rfl)
theorem dX8_row_28 : DE cX8_row 28 (.ireturn) 1 := dop_172 (dn_w dw93_1 12 rfl)
noncomputable def dt94_2 : List Nat := 180 :: 0 :: 40 :: 180 :: 0 :: 213 :: 21 :: 4 :: 29 :: 79 :: 21 :: 5 :: 172 :: []
noncomputable def dt94_1 : List Nat := 16 :: 247 :: 172 :: 42 :: 180 :: 0 :: 40 :: 180 :: 0 :: 213 :: 21 :: 4 :: 46 :: 54 :: 5 :: 42 :: dt94_2
noncomputable def dt94_0 : List Nat := 42 :: 180 :: 0 :: 40 :: 27 :: 28 :: 182 :: 0 :: 210 :: 54 :: 4 :: 21 :: 4 :: 156 :: 0 :: 6 :: dt94_1
theorem dw94_0 : dn cX8_alterRow 0 = dt94_0 := by decide +kernel
theorem dw94_1 : dn cX8_alterRow 16 = dt94_1 := dn_w dw94_0 16 rfl
theorem dw94_2 : dn cX8_alterRow 32 = dt94_2 := dn_w dw94_1 16 rfl
theorem dX8_alterRow_0 : DE cX8_alterRow 0 (.aload_n 0) 1 := dop_42 (dn_w dw94_0 0 rfl)
theorem dX8_alterRow_1 : DE cX8_alterRow 1 (.getfield 40) 3 := dop_180 (dn_w dw94_0 1 rfl) rfl
theorem dX8_alterRow_4 : DE cX8_alterRow 4 (.iload_n 1) 1 := dop_27 (dn_w dw94_0 4 rfl)
theorem dX8_alterRow_5 : DE cX8_alterRow 5 (.iload_n 2) 1 := dop_28 (dn_w dw94_0 5 rfl)
theorem dX8_alterRow_6 : DE cX8_alterRow 6 (.invokevirtual 210) 3 := dop_182 (dn_w dw94_0 6 rfl) rfl
theorem dX8_alterRow_9 : DE cX8_alterRow 9 (.istore 4) 2 := dop_54 (dn_w dw94_0 9 rfl)
theorem dX8_alterRow_11 : DE cX8_alterRow 11 (.iload 4) 2 := dop_21 (dn_w dw94_0 11 rfl)
theorem dX8_alterRow_13 : DE cX8_alterRow 13 (.ifCond .ge 6) 3 := dop_156 (dn_w dw94_0 13 rfl) rfl
theorem dX8_alterRow_16 : DE cX8_alterRow 16 (.bipush (-9)) 2 := dop_16 (dn_w dw94_1 0 rfl) rfl
theorem dX8_alterRow_18 : DE cX8_alterRow 18 (.ireturn) 1 := dop_172 (dn_w dw94_1 2 rfl)
theorem dX8_alterRow_19 : DE cX8_alterRow 19 (.aload_n 0) 1 := dop_42 (dn_w dw94_1 3 rfl)
theorem dX8_alterRow_20 : DE cX8_alterRow 20 (.getfield 40) 3 := dop_180 (dn_w dw94_1 4 rfl) rfl
theorem dX8_alterRow_23 : DE cX8_alterRow 23 (.getfield 213) 3 := dop_180 (dn_w dw94_1 7 rfl) rfl
theorem dX8_alterRow_26 : DE cX8_alterRow 26 (.iload 4) 2 := dop_21 (dn_w dw94_1 10 rfl)
theorem dX8_alterRow_28 : DE cX8_alterRow 28 (.iaload) 1 := dop_46 (dn_w dw94_1 12 rfl)
theorem dX8_alterRow_29 : DE cX8_alterRow 29 (.istore 5) 2 := dop_54 (dn_w dw94_1 13 rfl)
theorem dX8_alterRow_31 : DE cX8_alterRow 31 (.aload_n 0) 1 := dop_42 (dn_w dw94_1 15 rfl)
theorem dX8_alterRow_32 : DE cX8_alterRow 32 (.getfield 40) 3 := dop_180 (dn_w dw94_2 0 rfl) rfl
theorem dX8_alterRow_35 : DE cX8_alterRow 35 (.getfield 213) 3 := dop_180 (dn_w dw94_2 3 rfl) rfl
theorem dX8_alterRow_38 : DE cX8_alterRow 38 (.iload 4) 2 := dop_21 (dn_w dw94_2 6 rfl)
theorem dX8_alterRow_40 : DE cX8_alterRow 40 (.iload_n 3) 1 := dop_29 (dn_w dw94_2 8 rfl)
theorem dX8_alterRow_41 : DE cX8_alterRow 41 (.iastore) 1 := dop_79 (dn_w dw94_2 9 rfl)
theorem dX8_alterRow_42 : DE cX8_alterRow 42 (.iload 5) 2 := dop_21 (dn_w dw94_2 10 rfl)
theorem dX8_alterRow_44 : DE cX8_alterRow 44 (.ireturn) 1 := dop_172 (dn_w dw94_2 12 rfl)
noncomputable def dt95_1 : List Nat := 96 :: 172 :: []
noncomputable def dt95_0 : List Nat := 42 :: 180 :: 0 :: 26 :: 42 :: 180 :: 0 :: 10 :: 42 :: 180 :: 0 :: 40 :: 182 :: 0 :: 216 :: 4 :: dt95_1
theorem dw95_0 : dn cX8_judge 0 = dt95_0 := by decide +kernel
theorem dw95_1 : dn cX8_judge 16 = dt95_1 := dn_w dw95_0 16 rfl
theorem dX8_judge_0 : DE cX8_judge 0 (.aload_n 0) 1 := dop_42 (dn_w dw95_0 0 rfl)
theorem dX8_judge_1 : DE cX8_judge 1 (.getfield 26) 3 := dop_180 (dn_w dw95_0 1 rfl) rfl
theorem dX8_judge_4 : DE cX8_judge 4 (.aload_n 0) 1 := dop_42 (dn_w dw95_0 4 rfl)
theorem dX8_judge_5 : DE cX8_judge 5 (.getfield 10) 3 := dop_180 (dn_w dw95_0 5 rfl) rfl
theorem dX8_judge_8 : DE cX8_judge 8 (.aload_n 0) 1 := dop_42 (dn_w dw95_0 8 rfl)
theorem dX8_judge_9 : DE cX8_judge 9 (.getfield 40) 3 := dop_180 (dn_w dw95_0 9 rfl) rfl
theorem dX8_judge_12 : DE cX8_judge 12 (.invokevirtual 216) 3 := dop_182 (dn_w dw95_0 12 rfl) rfl
theorem dX8_judge_15 : DE cX8_judge 15 (.iconst 1) 1 := dop_4 (dn_w dw95_0 15 rfl)
theorem dX8_judge_16 : DE cX8_judge 16 (.iadd) 1 := dop_96 (dn_w dw95_1 0 rfl)
theorem dX8_judge_17 : DE cX8_judge 17 (.ireturn) 1 := dop_172 (dn_w dw95_1 1 rfl)
noncomputable def dt96_7 : List Nat := 47 :: 136 :: 16 :: 31 :: 126 :: 79 :: 132 :: 7 :: 1 :: 167 :: 255 :: 220 :: 21 :: 4 :: 172 :: []
noncomputable def dt96_6 : List Nat := 180 :: 0 :: 122 :: 29 :: 21 :: 7 :: 96 :: 25 :: 5 :: 180 :: 0 :: 229 :: 28 :: 21 :: 7 :: 96 :: dt96_7
noncomputable def dt96_5 : List Nat := 244 :: 172 :: 3 :: 54 :: 7 :: 21 :: 7 :: 21 :: 4 :: 162 :: 0 :: 35 :: 42 :: 180 :: 0 :: 10 :: dt96_6
noncomputable def dt96_4 : List Nat := 163 :: 0 :: 15 :: 21 :: 4 :: 25 :: 5 :: 180 :: 0 :: 226 :: 28 :: 100 :: 164 :: 0 :: 6 :: 16 :: dt96_5
noncomputable def dt96_3 : List Nat := 156 :: 0 :: 6 :: 21 :: 6 :: 172 :: 28 :: 155 :: 0 :: 24 :: 28 :: 25 :: 5 :: 180 :: 0 :: 226 :: dt96_4
noncomputable def dt96_2 : List Nat := 0 :: 46 :: 27 :: 50 :: 58 :: 5 :: 25 :: 5 :: 3 :: 182 :: 0 :: 223 :: 54 :: 6 :: 21 :: 6 :: dt96_3
noncomputable def dt96_1 : List Nat := 155 :: 0 :: 12 :: 21 :: 4 :: 16 :: 40 :: 29 :: 100 :: 164 :: 0 :: 5 :: 2 :: 172 :: 42 :: 180 :: dt96_2
noncomputable def dt96_0 : List Nat := 27 :: 184 :: 0 :: 220 :: 153 :: 0 :: 24 :: 29 :: 184 :: 0 :: 119 :: 153 :: 0 :: 17 :: 21 :: 4 :: dt96_1
theorem dw96_0 : dn cX8_events 0 = dt96_0 := by decide +kernel
theorem dw96_1 : dn cX8_events 16 = dt96_1 := dn_w dw96_0 16 rfl
theorem dw96_2 : dn cX8_events 32 = dt96_2 := dn_w dw96_1 16 rfl
theorem dw96_3 : dn cX8_events 48 = dt96_3 := dn_w dw96_2 16 rfl
theorem dw96_4 : dn cX8_events 64 = dt96_4 := dn_w dw96_3 16 rfl
theorem dw96_5 : dn cX8_events 80 = dt96_5 := dn_w dw96_4 16 rfl
theorem dw96_6 : dn cX8_events 96 = dt96_6 := dn_w dw96_5 16 rfl
theorem dw96_7 : dn cX8_events 112 = dt96_7 := dn_w dw96_6 16 rfl
theorem dX8_events_0 : DE cX8_events 0 (.iload_n 1) 1 := dop_27 (dn_w dw96_0 0 rfl)
theorem dX8_events_1 : DE cX8_events 1 (.invokestatic 220) 3 := dop_184 (dn_w dw96_0 1 rfl) rfl
theorem dX8_events_4 : DE cX8_events 4 (.ifCond .eq 24) 3 := dop_153 (dn_w dw96_0 4 rfl) rfl
theorem dX8_events_7 : DE cX8_events 7 (.iload_n 3) 1 := dop_29 (dn_w dw96_0 7 rfl)
theorem dX8_events_8 : DE cX8_events 8 (.invokestatic 119) 3 := dop_184 (dn_w dw96_0 8 rfl) rfl
theorem dX8_events_11 : DE cX8_events 11 (.ifCond .eq 17) 3 := dop_153 (dn_w dw96_0 11 rfl) rfl
theorem dX8_events_14 : DE cX8_events 14 (.iload 4) 2 := dop_21 (dn_w dw96_0 14 rfl)
theorem dX8_events_16 : DE cX8_events 16 (.ifCond .lt 12) 3 := dop_155 (dn_w dw96_1 0 rfl) rfl
theorem dX8_events_19 : DE cX8_events 19 (.iload 4) 2 := dop_21 (dn_w dw96_1 3 rfl)
theorem dX8_events_21 : DE cX8_events 21 (.bipush 40) 2 := dop_16 (dn_w dw96_1 5 rfl) rfl
theorem dX8_events_23 : DE cX8_events 23 (.iload_n 3) 1 := dop_29 (dn_w dw96_1 7 rfl)
theorem dX8_events_24 : DE cX8_events 24 (.isub) 1 := dop_100 (dn_w dw96_1 8 rfl)
theorem dX8_events_25 : DE cX8_events 25 (.if_icmp .le 5) 3 := dop_164 (dn_w dw96_1 9 rfl) rfl
theorem dX8_events_28 : DE cX8_events 28 (.iconst (-1)) 1 := dop_2 (dn_w dw96_1 12 rfl)
theorem dX8_events_29 : DE cX8_events 29 (.ireturn) 1 := dop_172 (dn_w dw96_1 13 rfl)
theorem dX8_events_30 : DE cX8_events 30 (.aload_n 0) 1 := dop_42 (dn_w dw96_1 14 rfl)
theorem dX8_events_31 : DE cX8_events 31 (.getfield 46) 3 := dop_180 (dn_w dw96_1 15 rfl) rfl
theorem dX8_events_34 : DE cX8_events 34 (.iload_n 1) 1 := dop_27 (dn_w dw96_2 2 rfl)
theorem dX8_events_35 : DE cX8_events 35 (.aaload) 1 := dop_50 (dn_w dw96_2 3 rfl)
theorem dX8_events_36 : DE cX8_events 36 (.astore 5) 2 := dop_58 (dn_w dw96_2 4 rfl)
theorem dX8_events_38 : DE cX8_events 38 (.aload 5) 2 := dop_25 (dn_w dw96_2 6 rfl)
theorem dX8_events_40 : DE cX8_events 40 (.iconst 0) 1 := dop_3 (dn_w dw96_2 8 rfl)
theorem dX8_events_41 : DE cX8_events 41 (.invokevirtual 223) 3 := dop_182 (dn_w dw96_2 9 rfl) rfl
theorem dX8_events_44 : DE cX8_events 44 (.istore 6) 2 := dop_54 (dn_w dw96_2 12 rfl)
theorem dX8_events_46 : DE cX8_events 46 (.iload 6) 2 := dop_21 (dn_w dw96_2 14 rfl)
theorem dX8_events_48 : DE cX8_events 48 (.ifCond .ge 6) 3 := dop_156 (dn_w dw96_3 0 rfl) rfl
theorem dX8_events_51 : DE cX8_events 51 (.iload 6) 2 := dop_21 (dn_w dw96_3 3 rfl)
theorem dX8_events_53 : DE cX8_events 53 (.ireturn) 1 := dop_172 (dn_w dw96_3 5 rfl)
theorem dX8_events_54 : DE cX8_events 54 (.iload_n 2) 1 := dop_28 (dn_w dw96_3 6 rfl)
theorem dX8_events_55 : DE cX8_events 55 (.ifCond .lt 24) 3 := dop_155 (dn_w dw96_3 7 rfl) rfl
theorem dX8_events_58 : DE cX8_events 58 (.iload_n 2) 1 := dop_28 (dn_w dw96_3 10 rfl)
theorem dX8_events_59 : DE cX8_events 59 (.aload 5) 2 := dop_25 (dn_w dw96_3 11 rfl)
theorem dX8_events_61 : DE cX8_events 61 (.getfield 226) 3 := dop_180 (dn_w dw96_3 13 rfl) rfl
theorem dX8_events_64 : DE cX8_events 64 (.if_icmp .gt 15) 3 := dop_163 (dn_w dw96_4 0 rfl) rfl
theorem dX8_events_67 : DE cX8_events 67 (.iload 4) 2 := dop_21 (dn_w dw96_4 3 rfl)
theorem dX8_events_69 : DE cX8_events 69 (.aload 5) 2 := dop_25 (dn_w dw96_4 5 rfl)
theorem dX8_events_71 : DE cX8_events 71 (.getfield 226) 3 := dop_180 (dn_w dw96_4 7 rfl) rfl
theorem dX8_events_74 : DE cX8_events 74 (.iload_n 2) 1 := dop_28 (dn_w dw96_4 10 rfl)
theorem dX8_events_75 : DE cX8_events 75 (.isub) 1 := dop_100 (dn_w dw96_4 11 rfl)
theorem dX8_events_76 : DE cX8_events 76 (.if_icmp .le 6) 3 := dop_164 (dn_w dw96_4 12 rfl) rfl
theorem dX8_events_79 : DE cX8_events 79 (.bipush (-12)) 2 := dop_16 (dn_w dw96_4 15 rfl) rfl
theorem dX8_events_81 : DE cX8_events 81 (.ireturn) 1 := dop_172 (dn_w dw96_5 1 rfl)
theorem dX8_events_82 : DE cX8_events 82 (.iconst 0) 1 := dop_3 (dn_w dw96_5 2 rfl)
theorem dX8_events_83 : DE cX8_events 83 (.istore 7) 2 := dop_54 (dn_w dw96_5 3 rfl)
theorem dX8_events_85 : DE cX8_events 85 (.iload 7) 2 := dop_21 (dn_w dw96_5 5 rfl)
theorem dX8_events_87 : DE cX8_events 87 (.iload 4) 2 := dop_21 (dn_w dw96_5 7 rfl)
theorem dX8_events_89 : DE cX8_events 89 (.if_icmp .ge 35) 3 := dop_162 (dn_w dw96_5 9 rfl) rfl
theorem dX8_events_92 : DE cX8_events 92 (.aload_n 0) 1 := dop_42 (dn_w dw96_5 12 rfl)
theorem dX8_events_93 : DE cX8_events 93 (.getfield 10) 3 := dop_180 (dn_w dw96_5 13 rfl) rfl
theorem dX8_events_96 : DE cX8_events 96 (.getfield 122) 3 := dop_180 (dn_w dw96_6 0 rfl) rfl
theorem dX8_events_99 : DE cX8_events 99 (.iload_n 3) 1 := dop_29 (dn_w dw96_6 3 rfl)
theorem dX8_events_100 : DE cX8_events 100 (.iload 7) 2 := dop_21 (dn_w dw96_6 4 rfl)
theorem dX8_events_102 : DE cX8_events 102 (.iadd) 1 := dop_96 (dn_w dw96_6 6 rfl)
theorem dX8_events_103 : DE cX8_events 103 (.aload 5) 2 := dop_25 (dn_w dw96_6 7 rfl)
theorem dX8_events_105 : DE cX8_events 105 (.getfield 229) 3 := dop_180 (dn_w dw96_6 9 rfl) rfl
theorem dX8_events_108 : DE cX8_events 108 (.iload_n 2) 1 := dop_28 (dn_w dw96_6 12 rfl)
theorem dX8_events_109 : DE cX8_events 109 (.iload 7) 2 := dop_21 (dn_w dw96_6 13 rfl)
theorem dX8_events_111 : DE cX8_events 111 (.iadd) 1 := dop_96 (dn_w dw96_6 15 rfl)
theorem dX8_events_112 : DE cX8_events 112 (.laload) 1 := dop_47 (dn_w dw96_7 0 rfl)
theorem dX8_events_113 : DE cX8_events 113 (.l2i) 1 := dop_136 (dn_w dw96_7 1 rfl)
theorem dX8_events_114 : DE cX8_events 114 (.bipush 31) 2 := dop_16 (dn_w dw96_7 2 rfl) rfl
theorem dX8_events_116 : DE cX8_events 116 (.iand) 1 := dop_126 (dn_w dw96_7 4 rfl)
theorem dX8_events_117 : DE cX8_events 117 (.iastore) 1 := dop_79 (dn_w dw96_7 5 rfl)
theorem dX8_events_118 : DE cX8_events 118 (.iinc 7 1) 3 := dop_132 (dn_w dw96_7 6 rfl) rfl
theorem dX8_events_121 : DE cX8_events 121 (.goto (-36)) 3 := dop_167 (dn_w dw96_7 9 rfl) rfl
theorem dX8_events_124 : DE cX8_events 124 (.iload 4) 2 := dop_21 (dn_w dw96_7 12 rfl)
theorem dX8_events_126 : DE cX8_events 126 (.ireturn) 1 := dop_172 (dn_w dw96_7 14 rfl)
noncomputable def dt97_4 : List Nat := 4 :: 172 :: []
noncomputable def dt97_3 : List Nat := 27 :: 50 :: 28 :: 28 :: 2 :: 160 :: 0 :: 7 :: 3 :: 167 :: 0 :: 4 :: 29 :: 182 :: 0 :: 233 :: dt97_4
noncomputable def dt97_2 : List Nat := 28 :: 2 :: 159 :: 0 :: 10 :: 29 :: 156 :: 0 :: 6 :: 16 :: 242 :: 172 :: 42 :: 180 :: 0 :: 46 :: dt97_3
noncomputable def dt97_1 : List Nat := 5 :: 2 :: 172 :: 28 :: 2 :: 159 :: 0 :: 11 :: 29 :: 16 :: 40 :: 164 :: 0 :: 5 :: 2 :: 172 :: dt97_2
noncomputable def dt97_0 : List Nat := 27 :: 184 :: 0 :: 220 :: 153 :: 0 :: 13 :: 28 :: 2 :: 161 :: 0 :: 8 :: 28 :: 7 :: 161 :: 0 :: dt97_1
theorem dw97_0 : dn cX8_sheet 0 = dt97_0 := by decide +kernel
theorem dw97_1 : dn cX8_sheet 16 = dt97_1 := dn_w dw97_0 16 rfl
theorem dw97_2 : dn cX8_sheet 32 = dt97_2 := dn_w dw97_1 16 rfl
theorem dw97_3 : dn cX8_sheet 48 = dt97_3 := dn_w dw97_2 16 rfl
theorem dw97_4 : dn cX8_sheet 64 = dt97_4 := dn_w dw97_3 16 rfl
theorem dX8_sheet_0 : DE cX8_sheet 0 (.iload_n 1) 1 := dop_27 (dn_w dw97_0 0 rfl)
theorem dX8_sheet_1 : DE cX8_sheet 1 (.invokestatic 220) 3 := dop_184 (dn_w dw97_0 1 rfl) rfl
theorem dX8_sheet_4 : DE cX8_sheet 4 (.ifCond .eq 13) 3 := dop_153 (dn_w dw97_0 4 rfl) rfl
theorem dX8_sheet_7 : DE cX8_sheet 7 (.iload_n 2) 1 := dop_28 (dn_w dw97_0 7 rfl)
theorem dX8_sheet_8 : DE cX8_sheet 8 (.iconst (-1)) 1 := dop_2 (dn_w dw97_0 8 rfl)
theorem dX8_sheet_9 : DE cX8_sheet 9 (.if_icmp .lt 8) 3 := dop_161 (dn_w dw97_0 9 rfl) rfl
theorem dX8_sheet_12 : DE cX8_sheet 12 (.iload_n 2) 1 := dop_28 (dn_w dw97_0 12 rfl)
theorem dX8_sheet_13 : DE cX8_sheet 13 (.iconst 4) 1 := dop_7 (dn_w dw97_0 13 rfl)
theorem dX8_sheet_14 : DE cX8_sheet 14 (.if_icmp .lt 5) 3 := dop_161 (dn_w dw97_0 14 rfl) rfl
theorem dX8_sheet_17 : DE cX8_sheet 17 (.iconst (-1)) 1 := dop_2 (dn_w dw97_1 1 rfl)
theorem dX8_sheet_18 : DE cX8_sheet 18 (.ireturn) 1 := dop_172 (dn_w dw97_1 2 rfl)
theorem dX8_sheet_19 : DE cX8_sheet 19 (.iload_n 2) 1 := dop_28 (dn_w dw97_1 3 rfl)
theorem dX8_sheet_20 : DE cX8_sheet 20 (.iconst (-1)) 1 := dop_2 (dn_w dw97_1 4 rfl)
theorem dX8_sheet_21 : DE cX8_sheet 21 (.if_icmp .eq 11) 3 := dop_159 (dn_w dw97_1 5 rfl) rfl
theorem dX8_sheet_24 : DE cX8_sheet 24 (.iload_n 3) 1 := dop_29 (dn_w dw97_1 8 rfl)
theorem dX8_sheet_25 : DE cX8_sheet 25 (.bipush 40) 2 := dop_16 (dn_w dw97_1 9 rfl) rfl
theorem dX8_sheet_27 : DE cX8_sheet 27 (.if_icmp .le 5) 3 := dop_164 (dn_w dw97_1 11 rfl) rfl
theorem dX8_sheet_30 : DE cX8_sheet 30 (.iconst (-1)) 1 := dop_2 (dn_w dw97_1 14 rfl)
theorem dX8_sheet_31 : DE cX8_sheet 31 (.ireturn) 1 := dop_172 (dn_w dw97_1 15 rfl)
theorem dX8_sheet_32 : DE cX8_sheet 32 (.iload_n 2) 1 := dop_28 (dn_w dw97_2 0 rfl)
theorem dX8_sheet_33 : DE cX8_sheet 33 (.iconst (-1)) 1 := dop_2 (dn_w dw97_2 1 rfl)
theorem dX8_sheet_34 : DE cX8_sheet 34 (.if_icmp .eq 10) 3 := dop_159 (dn_w dw97_2 2 rfl) rfl
theorem dX8_sheet_37 : DE cX8_sheet 37 (.iload_n 3) 1 := dop_29 (dn_w dw97_2 5 rfl)
theorem dX8_sheet_38 : DE cX8_sheet 38 (.ifCond .ge 6) 3 := dop_156 (dn_w dw97_2 6 rfl) rfl
theorem dX8_sheet_41 : DE cX8_sheet 41 (.bipush (-14)) 2 := dop_16 (dn_w dw97_2 9 rfl) rfl
theorem dX8_sheet_43 : DE cX8_sheet 43 (.ireturn) 1 := dop_172 (dn_w dw97_2 11 rfl)
theorem dX8_sheet_44 : DE cX8_sheet 44 (.aload_n 0) 1 := dop_42 (dn_w dw97_2 12 rfl)
theorem dX8_sheet_45 : DE cX8_sheet 45 (.getfield 46) 3 := dop_180 (dn_w dw97_2 13 rfl) rfl
theorem dX8_sheet_48 : DE cX8_sheet 48 (.iload_n 1) 1 := dop_27 (dn_w dw97_3 0 rfl)
theorem dX8_sheet_49 : DE cX8_sheet 49 (.aaload) 1 := dop_50 (dn_w dw97_3 1 rfl)
theorem dX8_sheet_50 : DE cX8_sheet 50 (.iload_n 2) 1 := dop_28 (dn_w dw97_3 2 rfl)
theorem dX8_sheet_51 : DE cX8_sheet 51 (.iload_n 2) 1 := dop_28 (dn_w dw97_3 3 rfl)
theorem dX8_sheet_52 : DE cX8_sheet 52 (.iconst (-1)) 1 := dop_2 (dn_w dw97_3 4 rfl)
theorem dX8_sheet_53 : DE cX8_sheet 53 (.if_icmp .ne 7) 3 := dop_160 (dn_w dw97_3 5 rfl) rfl
theorem dX8_sheet_56 : DE cX8_sheet 56 (.iconst 0) 1 := dop_3 (dn_w dw97_3 8 rfl)
theorem dX8_sheet_57 : DE cX8_sheet 57 (.goto 4) 3 := dop_167 (dn_w dw97_3 9 rfl) rfl
theorem dX8_sheet_60 : DE cX8_sheet 60 (.iload_n 3) 1 := dop_29 (dn_w dw97_3 12 rfl)
theorem dX8_sheet_61 : DE cX8_sheet 61 (.invokevirtual 233) 3 := dop_182 (dn_w dw97_3 13 rfl) rfl
theorem dX8_sheet_64 : DE cX8_sheet 64 (.iconst 1) 1 := dop_4 (dn_w dw97_4 0 rfl)
theorem dX8_sheet_65 : DE cX8_sheet 65 (.ireturn) 1 := dop_172 (dn_w dw97_4 1 rfl)
noncomputable def dt98_3 : List Nat := 4 :: 29 :: 182 :: 0 :: 243 :: 80 :: 4 :: 172 :: []
noncomputable def dt98_2 : List Nat := 182 :: 0 :: 240 :: 154 :: 0 :: 6 :: 16 :: 244 :: 172 :: 25 :: 4 :: 180 :: 0 :: 229 :: 28 :: 25 :: dt98_3
noncomputable def dt98_1 : List Nat := 4 :: 25 :: 4 :: 180 :: 0 :: 237 :: 2 :: 160 :: 0 :: 6 :: 16 :: 245 :: 172 :: 25 :: 4 :: 28 :: dt98_2
noncomputable def dt98_0 : List Nat := 27 :: 184 :: 0 :: 220 :: 154 :: 0 :: 5 :: 2 :: 172 :: 42 :: 180 :: 0 :: 46 :: 27 :: 50 :: 58 :: dt98_1
theorem dw98_0 : dn cX8_put 0 = dt98_0 := by decide +kernel
theorem dw98_1 : dn cX8_put 16 = dt98_1 := dn_w dw98_0 16 rfl
theorem dw98_2 : dn cX8_put 32 = dt98_2 := dn_w dw98_1 16 rfl
theorem dw98_3 : dn cX8_put 48 = dt98_3 := dn_w dw98_2 16 rfl
theorem dX8_put_0 : DE cX8_put 0 (.iload_n 1) 1 := dop_27 (dn_w dw98_0 0 rfl)
theorem dX8_put_1 : DE cX8_put 1 (.invokestatic 220) 3 := dop_184 (dn_w dw98_0 1 rfl) rfl
theorem dX8_put_4 : DE cX8_put 4 (.ifCond .ne 5) 3 := dop_154 (dn_w dw98_0 4 rfl) rfl
theorem dX8_put_7 : DE cX8_put 7 (.iconst (-1)) 1 := dop_2 (dn_w dw98_0 7 rfl)
theorem dX8_put_8 : DE cX8_put 8 (.ireturn) 1 := dop_172 (dn_w dw98_0 8 rfl)
theorem dX8_put_9 : DE cX8_put 9 (.aload_n 0) 1 := dop_42 (dn_w dw98_0 9 rfl)
theorem dX8_put_10 : DE cX8_put 10 (.getfield 46) 3 := dop_180 (dn_w dw98_0 10 rfl) rfl
theorem dX8_put_13 : DE cX8_put 13 (.iload_n 1) 1 := dop_27 (dn_w dw98_0 13 rfl)
theorem dX8_put_14 : DE cX8_put 14 (.aaload) 1 := dop_50 (dn_w dw98_0 14 rfl)
theorem dX8_put_15 : DE cX8_put 15 (.astore 4) 2 := dop_58 (dn_w dw98_0 15 rfl)
theorem dX8_put_17 : DE cX8_put 17 (.aload 4) 2 := dop_25 (dn_w dw98_1 1 rfl)
theorem dX8_put_19 : DE cX8_put 19 (.getfield 237) 3 := dop_180 (dn_w dw98_1 3 rfl) rfl
theorem dX8_put_22 : DE cX8_put 22 (.iconst (-1)) 1 := dop_2 (dn_w dw98_1 6 rfl)
theorem dX8_put_23 : DE cX8_put 23 (.if_icmp .ne 6) 3 := dop_160 (dn_w dw98_1 7 rfl) rfl
theorem dX8_put_26 : DE cX8_put 26 (.bipush (-11)) 2 := dop_16 (dn_w dw98_1 10 rfl) rfl
theorem dX8_put_28 : DE cX8_put 28 (.ireturn) 1 := dop_172 (dn_w dw98_1 12 rfl)
theorem dX8_put_29 : DE cX8_put 29 (.aload 4) 2 := dop_25 (dn_w dw98_1 13 rfl)
theorem dX8_put_31 : DE cX8_put 31 (.iload_n 2) 1 := dop_28 (dn_w dw98_1 15 rfl)
theorem dX8_put_32 : DE cX8_put 32 (.invokevirtual 240) 3 := dop_182 (dn_w dw98_2 0 rfl) rfl
theorem dX8_put_35 : DE cX8_put 35 (.ifCond .ne 6) 3 := dop_154 (dn_w dw98_2 3 rfl) rfl
theorem dX8_put_38 : DE cX8_put 38 (.bipush (-12)) 2 := dop_16 (dn_w dw98_2 6 rfl) rfl
theorem dX8_put_40 : DE cX8_put 40 (.ireturn) 1 := dop_172 (dn_w dw98_2 8 rfl)
theorem dX8_put_41 : DE cX8_put 41 (.aload 4) 2 := dop_25 (dn_w dw98_2 9 rfl)
theorem dX8_put_43 : DE cX8_put 43 (.getfield 229) 3 := dop_180 (dn_w dw98_2 11 rfl) rfl
theorem dX8_put_46 : DE cX8_put 46 (.iload_n 2) 1 := dop_28 (dn_w dw98_2 14 rfl)
theorem dX8_put_47 : DE cX8_put 47 (.aload 4) 2 := dop_25 (dn_w dw98_2 15 rfl)
theorem dX8_put_49 : DE cX8_put 49 (.iload_n 3) 1 := dop_29 (dn_w dw98_3 1 rfl)
theorem dX8_put_50 : DE cX8_put 50 (.invokevirtual 243) 3 := dop_182 (dn_w dw98_3 2 rfl) rfl
theorem dX8_put_53 : DE cX8_put 53 (.lastore) 1 := dop_80 (dn_w dw98_3 5 rfl)
theorem dX8_put_54 : DE cX8_put 54 (.iconst 1) 1 := dop_4 (dn_w dw98_3 6 rfl)
theorem dX8_put_55 : DE cX8_put 55 (.ireturn) 1 := dop_172 (dn_w dw98_3 7 rfl)
noncomputable def dt99_3 : List Nat := 14 :: 25 :: 4 :: 180 :: 0 :: 229 :: 29 :: 47 :: 136 :: 167 :: 0 :: 5 :: 16 :: 244 :: 172 :: []
noncomputable def dt99_2 : List Nat := 21 :: 5 :: 156 :: 0 :: 6 :: 21 :: 5 :: 172 :: 25 :: 4 :: 29 :: 182 :: 0 :: 240 :: 153 :: 0 :: dt99_3
noncomputable def dt99_1 : List Nat := 42 :: 180 :: 0 :: 46 :: 27 :: 50 :: 58 :: 4 :: 25 :: 4 :: 28 :: 182 :: 0 :: 223 :: 54 :: 5 :: dt99_2
noncomputable def dt99_0 : List Nat := 27 :: 184 :: 0 :: 220 :: 153 :: 0 :: 10 :: 28 :: 184 :: 0 :: 247 :: 154 :: 0 :: 5 :: 2 :: 172 :: dt99_1
theorem dw99_0 : dn cX8_item 0 = dt99_0 := by decide +kernel
theorem dw99_1 : dn cX8_item 16 = dt99_1 := dn_w dw99_0 16 rfl
theorem dw99_2 : dn cX8_item 32 = dt99_2 := dn_w dw99_1 16 rfl
theorem dw99_3 : dn cX8_item 48 = dt99_3 := dn_w dw99_2 16 rfl
theorem dX8_item_0 : DE cX8_item 0 (.iload_n 1) 1 := dop_27 (dn_w dw99_0 0 rfl)
theorem dX8_item_1 : DE cX8_item 1 (.invokestatic 220) 3 := dop_184 (dn_w dw99_0 1 rfl) rfl
theorem dX8_item_4 : DE cX8_item 4 (.ifCond .eq 10) 3 := dop_153 (dn_w dw99_0 4 rfl) rfl
theorem dX8_item_7 : DE cX8_item 7 (.iload_n 2) 1 := dop_28 (dn_w dw99_0 7 rfl)
theorem dX8_item_8 : DE cX8_item 8 (.invokestatic 247) 3 := dop_184 (dn_w dw99_0 8 rfl) rfl
theorem dX8_item_11 : DE cX8_item 11 (.ifCond .ne 5) 3 := dop_154 (dn_w dw99_0 11 rfl) rfl
theorem dX8_item_14 : DE cX8_item 14 (.iconst (-1)) 1 := dop_2 (dn_w dw99_0 14 rfl)
theorem dX8_item_15 : DE cX8_item 15 (.ireturn) 1 := dop_172 (dn_w dw99_0 15 rfl)
theorem dX8_item_16 : DE cX8_item 16 (.aload_n 0) 1 := dop_42 (dn_w dw99_1 0 rfl)
theorem dX8_item_17 : DE cX8_item 17 (.getfield 46) 3 := dop_180 (dn_w dw99_1 1 rfl) rfl
theorem dX8_item_20 : DE cX8_item 20 (.iload_n 1) 1 := dop_27 (dn_w dw99_1 4 rfl)
theorem dX8_item_21 : DE cX8_item 21 (.aaload) 1 := dop_50 (dn_w dw99_1 5 rfl)
theorem dX8_item_22 : DE cX8_item 22 (.astore 4) 2 := dop_58 (dn_w dw99_1 6 rfl)
theorem dX8_item_24 : DE cX8_item 24 (.aload 4) 2 := dop_25 (dn_w dw99_1 8 rfl)
theorem dX8_item_26 : DE cX8_item 26 (.iload_n 2) 1 := dop_28 (dn_w dw99_1 10 rfl)
theorem dX8_item_27 : DE cX8_item 27 (.invokevirtual 223) 3 := dop_182 (dn_w dw99_1 11 rfl) rfl
theorem dX8_item_30 : DE cX8_item 30 (.istore 5) 2 := dop_54 (dn_w dw99_1 14 rfl)
theorem dX8_item_32 : DE cX8_item 32 (.iload 5) 2 := dop_21 (dn_w dw99_2 0 rfl)
theorem dX8_item_34 : DE cX8_item 34 (.ifCond .ge 6) 3 := dop_156 (dn_w dw99_2 2 rfl) rfl
theorem dX8_item_37 : DE cX8_item 37 (.iload 5) 2 := dop_21 (dn_w dw99_2 5 rfl)
theorem dX8_item_39 : DE cX8_item 39 (.ireturn) 1 := dop_172 (dn_w dw99_2 7 rfl)
theorem dX8_item_40 : DE cX8_item 40 (.aload 4) 2 := dop_25 (dn_w dw99_2 8 rfl)
theorem dX8_item_42 : DE cX8_item 42 (.iload_n 3) 1 := dop_29 (dn_w dw99_2 10 rfl)
theorem dX8_item_43 : DE cX8_item 43 (.invokevirtual 240) 3 := dop_182 (dn_w dw99_2 11 rfl) rfl
theorem dX8_item_46 : DE cX8_item 46 (.ifCond .eq 14) 3 := dop_153 (dn_w dw99_2 14 rfl) rfl
theorem dX8_item_49 : DE cX8_item 49 (.aload 4) 2 := dop_25 (dn_w dw99_3 1 rfl)
theorem dX8_item_51 : DE cX8_item 51 (.getfield 229) 3 := dop_180 (dn_w dw99_3 3 rfl) rfl
theorem dX8_item_54 : DE cX8_item 54 (.iload_n 3) 1 := dop_29 (dn_w dw99_3 6 rfl)
theorem dX8_item_55 : DE cX8_item 55 (.laload) 1 := dop_47 (dn_w dw99_3 7 rfl)
theorem dX8_item_56 : DE cX8_item 56 (.l2i) 1 := dop_136 (dn_w dw99_3 8 rfl)
theorem dX8_item_57 : DE cX8_item 57 (.goto 5) 3 := dop_167 (dn_w dw99_3 9 rfl) rfl
theorem dX8_item_60 : DE cX8_item 60 (.bipush (-12)) 2 := dop_16 (dn_w dw99_3 12 rfl) rfl
theorem dX8_item_62 : DE cX8_item 62 (.ireturn) 1 := dop_172 (dn_w dw99_3 14 rfl)
noncomputable def dt100_7 : List Nat := 25 :: 4 :: 5 :: 181 :: 1 :: 4 :: 4 :: 172 :: []
noncomputable def dt100_6 : List Nat := 237 :: 42 :: 180 :: 0 :: 46 :: 29 :: 50 :: 180 :: 0 :: 226 :: 182 :: 1 :: 1 :: 167 :: 0 :: 9 :: dt100_7
noncomputable def dt100_5 : List Nat := 0 :: 237 :: 2 :: 159 :: 0 :: 29 :: 25 :: 4 :: 42 :: 180 :: 0 :: 46 :: 29 :: 50 :: 180 :: 0 :: dt100_6
noncomputable def dt100_4 : List Nat := 253 :: 167 :: 0 :: 53 :: 28 :: 4 :: 160 :: 0 :: 42 :: 42 :: 180 :: 0 :: 46 :: 29 :: 50 :: 180 :: dt100_5
noncomputable def dt100_3 : List Nat := 180 :: 0 :: 52 :: 27 :: 50 :: 58 :: 4 :: 28 :: 154 :: 0 :: 12 :: 25 :: 4 :: 29 :: 182 :: 0 :: dt100_4
noncomputable def dt100_2 : List Nat := 15 :: 28 :: 4 :: 160 :: 0 :: 12 :: 29 :: 184 :: 0 :: 220 :: 154 :: 0 :: 5 :: 2 :: 172 :: 42 :: dt100_3
noncomputable def dt100_1 : List Nat := 2 :: 172 :: 28 :: 154 :: 0 :: 14 :: 42 :: 180 :: 0 :: 10 :: 29 :: 182 :: 0 :: 102 :: 153 :: 0 :: dt100_2
noncomputable def dt100_0 : List Nat := 27 :: 184 :: 0 :: 250 :: 153 :: 0 :: 12 :: 28 :: 155 :: 0 :: 8 :: 28 :: 5 :: 164 :: 0 :: 5 :: dt100_1
theorem dw100_0 : dn cX8_shelf 0 = dt100_0 := by decide +kernel
theorem dw100_1 : dn cX8_shelf 16 = dt100_1 := dn_w dw100_0 16 rfl
theorem dw100_2 : dn cX8_shelf 32 = dt100_2 := dn_w dw100_1 16 rfl
theorem dw100_3 : dn cX8_shelf 48 = dt100_3 := dn_w dw100_2 16 rfl
theorem dw100_4 : dn cX8_shelf 64 = dt100_4 := dn_w dw100_3 16 rfl
theorem dw100_5 : dn cX8_shelf 80 = dt100_5 := dn_w dw100_4 16 rfl
theorem dw100_6 : dn cX8_shelf 96 = dt100_6 := dn_w dw100_5 16 rfl
theorem dw100_7 : dn cX8_shelf 112 = dt100_7 := dn_w dw100_6 16 rfl
theorem dX8_shelf_0 : DE cX8_shelf 0 (.iload_n 1) 1 := dop_27 (dn_w dw100_0 0 rfl)
theorem dX8_shelf_1 : DE cX8_shelf 1 (.invokestatic 250) 3 := dop_184 (dn_w dw100_0 1 rfl) rfl
theorem dX8_shelf_4 : DE cX8_shelf 4 (.ifCond .eq 12) 3 := dop_153 (dn_w dw100_0 4 rfl) rfl
theorem dX8_shelf_7 : DE cX8_shelf 7 (.iload_n 2) 1 := dop_28 (dn_w dw100_0 7 rfl)
theorem dX8_shelf_8 : DE cX8_shelf 8 (.ifCond .lt 8) 3 := dop_155 (dn_w dw100_0 8 rfl) rfl
theorem dX8_shelf_11 : DE cX8_shelf 11 (.iload_n 2) 1 := dop_28 (dn_w dw100_0 11 rfl)
theorem dX8_shelf_12 : DE cX8_shelf 12 (.iconst 2) 1 := dop_5 (dn_w dw100_0 12 rfl)
theorem dX8_shelf_13 : DE cX8_shelf 13 (.if_icmp .le 5) 3 := dop_164 (dn_w dw100_0 13 rfl) rfl
theorem dX8_shelf_16 : DE cX8_shelf 16 (.iconst (-1)) 1 := dop_2 (dn_w dw100_1 0 rfl)
theorem dX8_shelf_17 : DE cX8_shelf 17 (.ireturn) 1 := dop_172 (dn_w dw100_1 1 rfl)
theorem dX8_shelf_18 : DE cX8_shelf 18 (.iload_n 2) 1 := dop_28 (dn_w dw100_1 2 rfl)
theorem dX8_shelf_19 : DE cX8_shelf 19 (.ifCond .ne 14) 3 := dop_154 (dn_w dw100_1 3 rfl) rfl
theorem dX8_shelf_22 : DE cX8_shelf 22 (.aload_n 0) 1 := dop_42 (dn_w dw100_1 6 rfl)
theorem dX8_shelf_23 : DE cX8_shelf 23 (.getfield 10) 3 := dop_180 (dn_w dw100_1 7 rfl) rfl
theorem dX8_shelf_26 : DE cX8_shelf 26 (.iload_n 3) 1 := dop_29 (dn_w dw100_1 10 rfl)
theorem dX8_shelf_27 : DE cX8_shelf 27 (.invokevirtual 102) 3 := dop_182 (dn_w dw100_1 11 rfl) rfl
theorem dX8_shelf_30 : DE cX8_shelf 30 (.ifCond .eq 15) 3 := dop_153 (dn_w dw100_1 14 rfl) rfl
theorem dX8_shelf_33 : DE cX8_shelf 33 (.iload_n 2) 1 := dop_28 (dn_w dw100_2 1 rfl)
theorem dX8_shelf_34 : DE cX8_shelf 34 (.iconst 1) 1 := dop_4 (dn_w dw100_2 2 rfl)
theorem dX8_shelf_35 : DE cX8_shelf 35 (.if_icmp .ne 12) 3 := dop_160 (dn_w dw100_2 3 rfl) rfl
theorem dX8_shelf_38 : DE cX8_shelf 38 (.iload_n 3) 1 := dop_29 (dn_w dw100_2 6 rfl)
theorem dX8_shelf_39 : DE cX8_shelf 39 (.invokestatic 220) 3 := dop_184 (dn_w dw100_2 7 rfl) rfl
theorem dX8_shelf_42 : DE cX8_shelf 42 (.ifCond .ne 5) 3 := dop_154 (dn_w dw100_2 10 rfl) rfl
theorem dX8_shelf_45 : DE cX8_shelf 45 (.iconst (-1)) 1 := dop_2 (dn_w dw100_2 13 rfl)
theorem dX8_shelf_46 : DE cX8_shelf 46 (.ireturn) 1 := dop_172 (dn_w dw100_2 14 rfl)
theorem dX8_shelf_47 : DE cX8_shelf 47 (.aload_n 0) 1 := dop_42 (dn_w dw100_2 15 rfl)
theorem dX8_shelf_48 : DE cX8_shelf 48 (.getfield 52) 3 := dop_180 (dn_w dw100_3 0 rfl) rfl
theorem dX8_shelf_51 : DE cX8_shelf 51 (.iload_n 1) 1 := dop_27 (dn_w dw100_3 3 rfl)
theorem dX8_shelf_52 : DE cX8_shelf 52 (.aaload) 1 := dop_50 (dn_w dw100_3 4 rfl)
theorem dX8_shelf_53 : DE cX8_shelf 53 (.astore 4) 2 := dop_58 (dn_w dw100_3 5 rfl)
theorem dX8_shelf_55 : DE cX8_shelf 55 (.iload_n 2) 1 := dop_28 (dn_w dw100_3 7 rfl)
theorem dX8_shelf_56 : DE cX8_shelf 56 (.ifCond .ne 12) 3 := dop_154 (dn_w dw100_3 8 rfl) rfl
theorem dX8_shelf_59 : DE cX8_shelf 59 (.aload 4) 2 := dop_25 (dn_w dw100_3 11 rfl)
theorem dX8_shelf_61 : DE cX8_shelf 61 (.iload_n 3) 1 := dop_29 (dn_w dw100_3 13 rfl)
theorem dX8_shelf_62 : DE cX8_shelf 62 (.invokevirtual 253) 3 := dop_182 (dn_w dw100_3 14 rfl) rfl
theorem dX8_shelf_65 : DE cX8_shelf 65 (.goto 53) 3 := dop_167 (dn_w dw100_4 1 rfl) rfl
theorem dX8_shelf_68 : DE cX8_shelf 68 (.iload_n 2) 1 := dop_28 (dn_w dw100_4 4 rfl)
theorem dX8_shelf_69 : DE cX8_shelf 69 (.iconst 1) 1 := dop_4 (dn_w dw100_4 5 rfl)
theorem dX8_shelf_70 : DE cX8_shelf 70 (.if_icmp .ne 42) 3 := dop_160 (dn_w dw100_4 6 rfl) rfl
theorem dX8_shelf_73 : DE cX8_shelf 73 (.aload_n 0) 1 := dop_42 (dn_w dw100_4 9 rfl)
theorem dX8_shelf_74 : DE cX8_shelf 74 (.getfield 46) 3 := dop_180 (dn_w dw100_4 10 rfl) rfl
theorem dX8_shelf_77 : DE cX8_shelf 77 (.iload_n 3) 1 := dop_29 (dn_w dw100_4 13 rfl)
theorem dX8_shelf_78 : DE cX8_shelf 78 (.aaload) 1 := dop_50 (dn_w dw100_4 14 rfl)
theorem dX8_shelf_79 : DE cX8_shelf 79 (.getfield 237) 3 := dop_180 (dn_w dw100_4 15 rfl) rfl
theorem dX8_shelf_82 : DE cX8_shelf 82 (.iconst (-1)) 1 := dop_2 (dn_w dw100_5 2 rfl)
theorem dX8_shelf_83 : DE cX8_shelf 83 (.if_icmp .eq 29) 3 := dop_159 (dn_w dw100_5 3 rfl) rfl
theorem dX8_shelf_86 : DE cX8_shelf 86 (.aload 4) 2 := dop_25 (dn_w dw100_5 6 rfl)
theorem dX8_shelf_88 : DE cX8_shelf 88 (.aload_n 0) 1 := dop_42 (dn_w dw100_5 8 rfl)
theorem dX8_shelf_89 : DE cX8_shelf 89 (.getfield 46) 3 := dop_180 (dn_w dw100_5 9 rfl) rfl
theorem dX8_shelf_92 : DE cX8_shelf 92 (.iload_n 3) 1 := dop_29 (dn_w dw100_5 12 rfl)
theorem dX8_shelf_93 : DE cX8_shelf 93 (.aaload) 1 := dop_50 (dn_w dw100_5 13 rfl)
theorem dX8_shelf_94 : DE cX8_shelf 94 (.getfield 237) 3 := dop_180 (dn_w dw100_5 14 rfl) rfl
theorem dX8_shelf_97 : DE cX8_shelf 97 (.aload_n 0) 1 := dop_42 (dn_w dw100_6 1 rfl)
theorem dX8_shelf_98 : DE cX8_shelf 98 (.getfield 46) 3 := dop_180 (dn_w dw100_6 2 rfl) rfl
theorem dX8_shelf_101 : DE cX8_shelf 101 (.iload_n 3) 1 := dop_29 (dn_w dw100_6 5 rfl)
theorem dX8_shelf_102 : DE cX8_shelf 102 (.aaload) 1 := dop_50 (dn_w dw100_6 6 rfl)
theorem dX8_shelf_103 : DE cX8_shelf 103 (.getfield 226) 3 := dop_180 (dn_w dw100_6 7 rfl) rfl
theorem dX8_shelf_106 : DE cX8_shelf 106 (.invokevirtual 257) 3 := dop_182 (dn_w dw100_6 10 rfl) rfl
theorem dX8_shelf_109 : DE cX8_shelf 109 (.goto 9) 3 := dop_167 (dn_w dw100_6 13 rfl) rfl
theorem dX8_shelf_112 : DE cX8_shelf 112 (.aload 4) 2 := dop_25 (dn_w dw100_7 0 rfl)
theorem dX8_shelf_114 : DE cX8_shelf 114 (.iconst 2) 1 := dop_5 (dn_w dw100_7 2 rfl)
theorem dX8_shelf_115 : DE cX8_shelf 115 (.putfield 260) 3 := dop_181 (dn_w dw100_7 3 rfl) rfl
theorem dX8_shelf_118 : DE cX8_shelf 118 (.iconst 1) 1 := dop_4 (dn_w dw100_7 6 rfl)
theorem dX8_shelf_119 : DE cX8_shelf 119 (.ireturn) 1 := dop_172 (dn_w dw100_7 7 rfl)
noncomputable def dt101_6 : List Nat := 153 :: 0 :: 10 :: 45 :: 180 :: 1 :: 8 :: 167 :: 0 :: 5 :: 16 :: 243 :: 172 :: []
noncomputable def dt101_5 : List Nat := 42 :: 180 :: 0 :: 10 :: 180 :: 0 :: 109 :: 45 :: 180 :: 1 :: 8 :: 46 :: 28 :: 184 :: 1 :: 15 :: dt101_6
noncomputable def dt101_4 : List Nat := 182 :: 1 :: 11 :: 154 :: 0 :: 6 :: 16 :: 245 :: 172 :: 28 :: 184 :: 0 :: 88 :: 153 :: 0 :: 29 :: dt101_5
noncomputable def dt101_3 : List Nat := 100 :: 160 :: 0 :: 10 :: 45 :: 180 :: 1 :: 8 :: 167 :: 0 :: 5 :: 16 :: 243 :: 172 :: 42 :: 45 :: dt101_4
noncomputable def dt101_2 : List Nat := 78 :: 45 :: 180 :: 1 :: 4 :: 4 :: 160 :: 0 :: 24 :: 45 :: 180 :: 1 :: 7 :: 28 :: 16 :: 10 :: dt101_3
noncomputable def dt101_1 : List Nat := 10 :: 100 :: 184 :: 0 :: 247 :: 154 :: 0 :: 5 :: 2 :: 172 :: 42 :: 180 :: 0 :: 52 :: 27 :: 50 :: dt101_2
noncomputable def dt101_0 : List Nat := 27 :: 184 :: 0 :: 250 :: 153 :: 0 :: 20 :: 28 :: 184 :: 0 :: 88 :: 154 :: 0 :: 15 :: 28 :: 16 :: dt101_1
theorem dw101_0 : dn cX8_taken 0 = dt101_0 := by decide +kernel
theorem dw101_1 : dn cX8_taken 16 = dt101_1 := dn_w dw101_0 16 rfl
theorem dw101_2 : dn cX8_taken 32 = dt101_2 := dn_w dw101_1 16 rfl
theorem dw101_3 : dn cX8_taken 48 = dt101_3 := dn_w dw101_2 16 rfl
theorem dw101_4 : dn cX8_taken 64 = dt101_4 := dn_w dw101_3 16 rfl
theorem dw101_5 : dn cX8_taken 80 = dt101_5 := dn_w dw101_4 16 rfl
theorem dw101_6 : dn cX8_taken 96 = dt101_6 := dn_w dw101_5 16 rfl
theorem dX8_taken_0 : DE cX8_taken 0 (.iload_n 1) 1 := dop_27 (dn_w dw101_0 0 rfl)
theorem dX8_taken_1 : DE cX8_taken 1 (.invokestatic 250) 3 := dop_184 (dn_w dw101_0 1 rfl) rfl
theorem dX8_taken_4 : DE cX8_taken 4 (.ifCond .eq 20) 3 := dop_153 (dn_w dw101_0 4 rfl) rfl
theorem dX8_taken_7 : DE cX8_taken 7 (.iload_n 2) 1 := dop_28 (dn_w dw101_0 7 rfl)
theorem dX8_taken_8 : DE cX8_taken 8 (.invokestatic 88) 3 := dop_184 (dn_w dw101_0 8 rfl) rfl
theorem dX8_taken_11 : DE cX8_taken 11 (.ifCond .ne 15) 3 := dop_154 (dn_w dw101_0 11 rfl) rfl
theorem dX8_taken_14 : DE cX8_taken 14 (.iload_n 2) 1 := dop_28 (dn_w dw101_0 14 rfl)
theorem dX8_taken_15 : DE cX8_taken 15 (.bipush 10) 2 := dop_16 (dn_w dw101_0 15 rfl) rfl
theorem dX8_taken_17 : DE cX8_taken 17 (.isub) 1 := dop_100 (dn_w dw101_1 1 rfl)
theorem dX8_taken_18 : DE cX8_taken 18 (.invokestatic 247) 3 := dop_184 (dn_w dw101_1 2 rfl) rfl
theorem dX8_taken_21 : DE cX8_taken 21 (.ifCond .ne 5) 3 := dop_154 (dn_w dw101_1 5 rfl) rfl
theorem dX8_taken_24 : DE cX8_taken 24 (.iconst (-1)) 1 := dop_2 (dn_w dw101_1 8 rfl)
theorem dX8_taken_25 : DE cX8_taken 25 (.ireturn) 1 := dop_172 (dn_w dw101_1 9 rfl)
theorem dX8_taken_26 : DE cX8_taken 26 (.aload_n 0) 1 := dop_42 (dn_w dw101_1 10 rfl)
theorem dX8_taken_27 : DE cX8_taken 27 (.getfield 52) 3 := dop_180 (dn_w dw101_1 11 rfl) rfl
theorem dX8_taken_30 : DE cX8_taken 30 (.iload_n 1) 1 := dop_27 (dn_w dw101_1 14 rfl)
theorem dX8_taken_31 : DE cX8_taken 31 (.aaload) 1 := dop_50 (dn_w dw101_1 15 rfl)
theorem dX8_taken_32 : DE cX8_taken 32 (.astore_n 3) 1 := dop_78 (dn_w dw101_2 0 rfl)
theorem dX8_taken_33 : DE cX8_taken 33 (.aload_n 3) 1 := dop_45 (dn_w dw101_2 1 rfl)
theorem dX8_taken_34 : DE cX8_taken 34 (.getfield 260) 3 := dop_180 (dn_w dw101_2 2 rfl) rfl
theorem dX8_taken_37 : DE cX8_taken 37 (.iconst 1) 1 := dop_4 (dn_w dw101_2 5 rfl)
theorem dX8_taken_38 : DE cX8_taken 38 (.if_icmp .ne 24) 3 := dop_160 (dn_w dw101_2 6 rfl) rfl
theorem dX8_taken_41 : DE cX8_taken 41 (.aload_n 3) 1 := dop_45 (dn_w dw101_2 9 rfl)
theorem dX8_taken_42 : DE cX8_taken 42 (.getfield 263) 3 := dop_180 (dn_w dw101_2 10 rfl) rfl
theorem dX8_taken_45 : DE cX8_taken 45 (.iload_n 2) 1 := dop_28 (dn_w dw101_2 13 rfl)
theorem dX8_taken_46 : DE cX8_taken 46 (.bipush 10) 2 := dop_16 (dn_w dw101_2 14 rfl) rfl
theorem dX8_taken_48 : DE cX8_taken 48 (.isub) 1 := dop_100 (dn_w dw101_3 0 rfl)
theorem dX8_taken_49 : DE cX8_taken 49 (.if_icmp .ne 10) 3 := dop_160 (dn_w dw101_3 1 rfl) rfl
theorem dX8_taken_52 : DE cX8_taken 52 (.aload_n 3) 1 := dop_45 (dn_w dw101_3 4 rfl)
theorem dX8_taken_53 : DE cX8_taken 53 (.getfield 264) 3 := dop_180 (dn_w dw101_3 5 rfl) rfl
theorem dX8_taken_56 : DE cX8_taken 56 (.goto 5) 3 := dop_167 (dn_w dw101_3 8 rfl) rfl
theorem dX8_taken_59 : DE cX8_taken 59 (.bipush (-13)) 2 := dop_16 (dn_w dw101_3 11 rfl) rfl
theorem dX8_taken_61 : DE cX8_taken 61 (.ireturn) 1 := dop_172 (dn_w dw101_3 13 rfl)
theorem dX8_taken_62 : DE cX8_taken 62 (.aload_n 0) 1 := dop_42 (dn_w dw101_3 14 rfl)
theorem dX8_taken_63 : DE cX8_taken 63 (.aload_n 3) 1 := dop_45 (dn_w dw101_3 15 rfl)
theorem dX8_taken_64 : DE cX8_taken 64 (.invokevirtual 267) 3 := dop_182 (dn_w dw101_4 0 rfl) rfl
theorem dX8_taken_67 : DE cX8_taken 67 (.ifCond .ne 6) 3 := dop_154 (dn_w dw101_4 3 rfl) rfl
theorem dX8_taken_70 : DE cX8_taken 70 (.bipush (-11)) 2 := dop_16 (dn_w dw101_4 6 rfl) rfl
theorem dX8_taken_72 : DE cX8_taken 72 (.ireturn) 1 := dop_172 (dn_w dw101_4 8 rfl)
theorem dX8_taken_73 : DE cX8_taken 73 (.iload_n 2) 1 := dop_28 (dn_w dw101_4 9 rfl)
theorem dX8_taken_74 : DE cX8_taken 74 (.invokestatic 88) 3 := dop_184 (dn_w dw101_4 10 rfl) rfl
theorem dX8_taken_77 : DE cX8_taken 77 (.ifCond .eq 29) 3 := dop_153 (dn_w dw101_4 13 rfl) rfl
theorem dX8_taken_80 : DE cX8_taken 80 (.aload_n 0) 1 := dop_42 (dn_w dw101_5 0 rfl)
theorem dX8_taken_81 : DE cX8_taken 81 (.getfield 10) 3 := dop_180 (dn_w dw101_5 1 rfl) rfl
theorem dX8_taken_84 : DE cX8_taken 84 (.getfield 109) 3 := dop_180 (dn_w dw101_5 4 rfl) rfl
theorem dX8_taken_87 : DE cX8_taken 87 (.aload_n 3) 1 := dop_45 (dn_w dw101_5 7 rfl)
theorem dX8_taken_88 : DE cX8_taken 88 (.getfield 264) 3 := dop_180 (dn_w dw101_5 8 rfl) rfl
theorem dX8_taken_91 : DE cX8_taken 91 (.iaload) 1 := dop_46 (dn_w dw101_5 11 rfl)
theorem dX8_taken_92 : DE cX8_taken 92 (.iload_n 2) 1 := dop_28 (dn_w dw101_5 12 rfl)
theorem dX8_taken_93 : DE cX8_taken 93 (.invokestatic 271) 3 := dop_184 (dn_w dw101_5 13 rfl) rfl
theorem dX8_taken_96 : DE cX8_taken 96 (.ifCond .eq 10) 3 := dop_153 (dn_w dw101_6 0 rfl) rfl
theorem dX8_taken_99 : DE cX8_taken 99 (.aload_n 3) 1 := dop_45 (dn_w dw101_6 3 rfl)
theorem dX8_taken_100 : DE cX8_taken 100 (.getfield 264) 3 := dop_180 (dn_w dw101_6 4 rfl) rfl
theorem dX8_taken_103 : DE cX8_taken 103 (.goto 5) 3 := dop_167 (dn_w dw101_6 7 rfl) rfl
theorem dX8_taken_106 : DE cX8_taken 106 (.bipush (-13)) 2 := dop_16 (dn_w dw101_6 10 rfl) rfl
theorem dX8_taken_108 : DE cX8_taken 108 (.ireturn) 1 := dop_172 (dn_w dw101_6 12 rfl)
noncomputable def dt102_5 : List Nat := 172 :: []
noncomputable def dt102_4 : List Nat := 4 :: 42 :: 180 :: 0 :: 10 :: 180 :: 0 :: 113 :: 21 :: 4 :: 46 :: 28 :: 29 :: 182 :: 1 :: 21 :: dt102_5
noncomputable def dt102_3 : List Nat := 4 :: 42 :: 180 :: 0 :: 59 :: 42 :: 180 :: 0 :: 10 :: 180 :: 0 :: 109 :: 21 :: 4 :: 46 :: 21 :: dt102_4
noncomputable def dt102_2 : List Nat := 11 :: 154 :: 0 :: 5 :: 3 :: 172 :: 42 :: 180 :: 0 :: 52 :: 27 :: 50 :: 180 :: 1 :: 8 :: 54 :: dt102_3
noncomputable def dt102_1 : List Nat := 0 :: 21 :: 28 :: 7 :: 162 :: 0 :: 16 :: 42 :: 42 :: 180 :: 0 :: 52 :: 27 :: 50 :: 182 :: 1 :: dt102_2
noncomputable def dt102_0 : List Nat := 42 :: 180 :: 0 :: 59 :: 182 :: 1 :: 18 :: 27 :: 184 :: 0 :: 250 :: 153 :: 0 :: 25 :: 28 :: 155 :: dt102_1
theorem dw102_0 : dn cX8_act 0 = dt102_0 := by decide +kernel
theorem dw102_1 : dn cX8_act 16 = dt102_1 := dn_w dw102_0 16 rfl
theorem dw102_2 : dn cX8_act 32 = dt102_2 := dn_w dw102_1 16 rfl
theorem dw102_3 : dn cX8_act 48 = dt102_3 := dn_w dw102_2 16 rfl
theorem dw102_4 : dn cX8_act 64 = dt102_4 := dn_w dw102_3 16 rfl
theorem dw102_5 : dn cX8_act 80 = dt102_5 := dn_w dw102_4 16 rfl
theorem dX8_act_0 : DE cX8_act 0 (.aload_n 0) 1 := dop_42 (dn_w dw102_0 0 rfl)
theorem dX8_act_1 : DE cX8_act 1 (.getfield 59) 3 := dop_180 (dn_w dw102_0 1 rfl) rfl
theorem dX8_act_4 : DE cX8_act 4 (.invokevirtual 274) 3 := dop_182 (dn_w dw102_0 4 rfl) rfl
theorem dX8_act_7 : DE cX8_act 7 (.iload_n 1) 1 := dop_27 (dn_w dw102_0 7 rfl)
theorem dX8_act_8 : DE cX8_act 8 (.invokestatic 250) 3 := dop_184 (dn_w dw102_0 8 rfl) rfl
theorem dX8_act_11 : DE cX8_act 11 (.ifCond .eq 25) 3 := dop_153 (dn_w dw102_0 11 rfl) rfl
theorem dX8_act_14 : DE cX8_act 14 (.iload_n 2) 1 := dop_28 (dn_w dw102_0 14 rfl)
theorem dX8_act_15 : DE cX8_act 15 (.ifCond .lt 21) 3 := dop_155 (dn_w dw102_0 15 rfl) rfl
theorem dX8_act_18 : DE cX8_act 18 (.iload_n 2) 1 := dop_28 (dn_w dw102_1 2 rfl)
theorem dX8_act_19 : DE cX8_act 19 (.iconst 4) 1 := dop_7 (dn_w dw102_1 3 rfl)
theorem dX8_act_20 : DE cX8_act 20 (.if_icmp .ge 16) 3 := dop_162 (dn_w dw102_1 4 rfl) rfl
theorem dX8_act_23 : DE cX8_act 23 (.aload_n 0) 1 := dop_42 (dn_w dw102_1 7 rfl)
theorem dX8_act_24 : DE cX8_act 24 (.aload_n 0) 1 := dop_42 (dn_w dw102_1 8 rfl)
theorem dX8_act_25 : DE cX8_act 25 (.getfield 52) 3 := dop_180 (dn_w dw102_1 9 rfl) rfl
theorem dX8_act_28 : DE cX8_act 28 (.iload_n 1) 1 := dop_27 (dn_w dw102_1 12 rfl)
theorem dX8_act_29 : DE cX8_act 29 (.aaload) 1 := dop_50 (dn_w dw102_1 13 rfl)
theorem dX8_act_30 : DE cX8_act 30 (.invokevirtual 267) 3 := dop_182 (dn_w dw102_1 14 rfl) rfl
theorem dX8_act_33 : DE cX8_act 33 (.ifCond .ne 5) 3 := dop_154 (dn_w dw102_2 1 rfl) rfl
theorem dX8_act_36 : DE cX8_act 36 (.iconst 0) 1 := dop_3 (dn_w dw102_2 4 rfl)
theorem dX8_act_37 : DE cX8_act 37 (.ireturn) 1 := dop_172 (dn_w dw102_2 5 rfl)
theorem dX8_act_38 : DE cX8_act 38 (.aload_n 0) 1 := dop_42 (dn_w dw102_2 6 rfl)
theorem dX8_act_39 : DE cX8_act 39 (.getfield 52) 3 := dop_180 (dn_w dw102_2 7 rfl) rfl
theorem dX8_act_42 : DE cX8_act 42 (.iload_n 1) 1 := dop_27 (dn_w dw102_2 10 rfl)
theorem dX8_act_43 : DE cX8_act 43 (.aaload) 1 := dop_50 (dn_w dw102_2 11 rfl)
theorem dX8_act_44 : DE cX8_act 44 (.getfield 264) 3 := dop_180 (dn_w dw102_2 12 rfl) rfl
theorem dX8_act_47 : DE cX8_act 47 (.istore 4) 2 := dop_54 (dn_w dw102_2 15 rfl)
theorem dX8_act_49 : DE cX8_act 49 (.aload_n 0) 1 := dop_42 (dn_w dw102_3 1 rfl)
theorem dX8_act_50 : DE cX8_act 50 (.getfield 59) 3 := dop_180 (dn_w dw102_3 2 rfl) rfl
theorem dX8_act_53 : DE cX8_act 53 (.aload_n 0) 1 := dop_42 (dn_w dw102_3 5 rfl)
theorem dX8_act_54 : DE cX8_act 54 (.getfield 10) 3 := dop_180 (dn_w dw102_3 6 rfl) rfl
theorem dX8_act_57 : DE cX8_act 57 (.getfield 109) 3 := dop_180 (dn_w dw102_3 9 rfl) rfl
theorem dX8_act_60 : DE cX8_act 60 (.iload 4) 2 := dop_21 (dn_w dw102_3 12 rfl)
theorem dX8_act_62 : DE cX8_act 62 (.iaload) 1 := dop_46 (dn_w dw102_3 14 rfl)
theorem dX8_act_63 : DE cX8_act 63 (.iload 4) 2 := dop_21 (dn_w dw102_3 15 rfl)
theorem dX8_act_65 : DE cX8_act 65 (.aload_n 0) 1 := dop_42 (dn_w dw102_4 1 rfl)
theorem dX8_act_66 : DE cX8_act 66 (.getfield 10) 3 := dop_180 (dn_w dw102_4 2 rfl) rfl
theorem dX8_act_69 : DE cX8_act 69 (.getfield 113) 3 := dop_180 (dn_w dw102_4 5 rfl) rfl
theorem dX8_act_72 : DE cX8_act 72 (.iload 4) 2 := dop_21 (dn_w dw102_4 8 rfl)
theorem dX8_act_74 : DE cX8_act 74 (.iaload) 1 := dop_46 (dn_w dw102_4 10 rfl)
theorem dX8_act_75 : DE cX8_act 75 (.iload_n 2) 1 := dop_28 (dn_w dw102_4 11 rfl)
theorem dX8_act_76 : DE cX8_act 76 (.iload_n 3) 1 := dop_29 (dn_w dw102_4 12 rfl)
theorem dX8_act_77 : DE cX8_act 77 (.invokevirtual 277) 3 := dop_182 (dn_w dw102_4 13 rfl) rfl
theorem dX8_act_80 : DE cX8_act 80 (.ireturn) 1 := dop_172 (dn_w dw102_5 0 rfl)
noncomputable def dt103_1 : List Nat := 180 :: 0 :: 59 :: 180 :: 1 :: 28 :: 27 :: 46 :: 167 :: 0 :: 5 :: 16 :: 253 :: 172 :: []
noncomputable def dt103_0 : List Nat := 27 :: 155 :: 0 :: 26 :: 27 :: 42 :: 180 :: 0 :: 59 :: 180 :: 1 :: 25 :: 162 :: 0 :: 15 :: 42 :: dt103_1
theorem dw103_0 : dn cX8_trace 0 = dt103_0 := by decide +kernel
theorem dw103_1 : dn cX8_trace 16 = dt103_1 := dn_w dw103_0 16 rfl
theorem dX8_trace_0 : DE cX8_trace 0 (.iload_n 1) 1 := dop_27 (dn_w dw103_0 0 rfl)
theorem dX8_trace_1 : DE cX8_trace 1 (.ifCond .lt 26) 3 := dop_155 (dn_w dw103_0 1 rfl) rfl
theorem dX8_trace_4 : DE cX8_trace 4 (.iload_n 1) 1 := dop_27 (dn_w dw103_0 4 rfl)
theorem dX8_trace_5 : DE cX8_trace 5 (.aload_n 0) 1 := dop_42 (dn_w dw103_0 5 rfl)
theorem dX8_trace_6 : DE cX8_trace 6 (.getfield 59) 3 := dop_180 (dn_w dw103_0 6 rfl) rfl
theorem dX8_trace_9 : DE cX8_trace 9 (.getfield 281) 3 := dop_180 (dn_w dw103_0 9 rfl) rfl
theorem dX8_trace_12 : DE cX8_trace 12 (.if_icmp .ge 15) 3 := dop_162 (dn_w dw103_0 12 rfl) rfl
theorem dX8_trace_15 : DE cX8_trace 15 (.aload_n 0) 1 := dop_42 (dn_w dw103_0 15 rfl)
theorem dX8_trace_16 : DE cX8_trace 16 (.getfield 59) 3 := dop_180 (dn_w dw103_1 0 rfl) rfl
theorem dX8_trace_19 : DE cX8_trace 19 (.getfield 284) 3 := dop_180 (dn_w dw103_1 3 rfl) rfl
theorem dX8_trace_22 : DE cX8_trace 22 (.iload_n 1) 1 := dop_27 (dn_w dw103_1 6 rfl)
theorem dX8_trace_23 : DE cX8_trace 23 (.iaload) 1 := dop_46 (dn_w dw103_1 7 rfl)
theorem dX8_trace_24 : DE cX8_trace 24 (.goto 5) 3 := dop_167 (dn_w dw103_1 8 rfl) rfl
theorem dX8_trace_27 : DE cX8_trace 27 (.bipush (-3)) 2 := dop_16 (dn_w dw103_1 11 rfl) rfl
theorem dX8_trace_29 : DE cX8_trace 29 (.ireturn) 1 := dop_172 (dn_w dw103_1 13 rfl)
noncomputable def dt104_4 : List Nat := 180 :: 0 :: 69 :: 172 :: 42 :: 180 :: 0 :: 59 :: 180 :: 1 :: 25 :: 172 :: 2 :: 172 :: []
noncomputable def dt104_3 : List Nat := 182 :: 1 :: 31 :: 172 :: 42 :: 180 :: 0 :: 40 :: 180 :: 0 :: 84 :: 172 :: 42 :: 180 :: 0 :: 33 :: dt104_4
noncomputable def dt104_2 : List Nat := 0 :: 0 :: 0 :: 67 :: 42 :: 180 :: 0 :: 10 :: 180 :: 0 :: 87 :: 172 :: 42 :: 180 :: 0 :: 10 :: dt104_3
noncomputable def dt104_1 : List Nat := 0 :: 0 :: 0 :: 35 :: 0 :: 0 :: 0 :: 43 :: 0 :: 0 :: 0 :: 51 :: 0 :: 0 :: 0 :: 59 :: dt104_2
noncomputable def dt104_0 : List Nat := 27 :: 170 :: 0 :: 0 :: 0 :: 0 :: 0 :: 75 :: 0 :: 0 :: 0 :: 0 :: 0 :: 0 :: 0 :: 4 :: dt104_1
theorem dw104_0 : dn cX8_many 0 = dt104_0 := by decide +kernel
theorem dw104_1 : dn cX8_many 16 = dt104_1 := dn_w dw104_0 16 rfl
theorem dw104_2 : dn cX8_many 32 = dt104_2 := dn_w dw104_1 16 rfl
theorem dw104_3 : dn cX8_many 48 = dt104_3 := dn_w dw104_2 16 rfl
theorem dw104_4 : dn cX8_many 64 = dt104_4 := dn_w dw104_3 16 rfl
theorem dX8_many_0 : DE cX8_many 0 (.iload_n 1) 1 := dop_27 (dn_w dw104_0 0 rfl)
theorem dX8_many_1 : decode cX8_many 1 = .ok (.tableswitch 75 0 4 #[35, 43, 51, 59, 67], 35) := by decide +kernel
theorem dX8_many_36 : DE cX8_many 36 (.aload_n 0) 1 := dop_42 (dn_w dw104_2 4 rfl)
theorem dX8_many_37 : DE cX8_many 37 (.getfield 10) 3 := dop_180 (dn_w dw104_2 5 rfl) rfl
theorem dX8_many_40 : DE cX8_many 40 (.getfield 87) 3 := dop_180 (dn_w dw104_2 8 rfl) rfl
theorem dX8_many_43 : DE cX8_many 43 (.ireturn) 1 := dop_172 (dn_w dw104_2 11 rfl)
theorem dX8_many_44 : DE cX8_many 44 (.aload_n 0) 1 := dop_42 (dn_w dw104_2 12 rfl)
theorem dX8_many_45 : DE cX8_many 45 (.getfield 10) 3 := dop_180 (dn_w dw104_2 13 rfl) rfl
theorem dX8_many_48 : DE cX8_many 48 (.invokevirtual 287) 3 := dop_182 (dn_w dw104_3 0 rfl) rfl
theorem dX8_many_51 : DE cX8_many 51 (.ireturn) 1 := dop_172 (dn_w dw104_3 3 rfl)
theorem dX8_many_52 : DE cX8_many 52 (.aload_n 0) 1 := dop_42 (dn_w dw104_3 4 rfl)
theorem dX8_many_53 : DE cX8_many 53 (.getfield 40) 3 := dop_180 (dn_w dw104_3 5 rfl) rfl
theorem dX8_many_56 : DE cX8_many 56 (.getfield 84) 3 := dop_180 (dn_w dw104_3 8 rfl) rfl
theorem dX8_many_59 : DE cX8_many 59 (.ireturn) 1 := dop_172 (dn_w dw104_3 11 rfl)
theorem dX8_many_60 : DE cX8_many 60 (.aload_n 0) 1 := dop_42 (dn_w dw104_3 12 rfl)
theorem dX8_many_61 : DE cX8_many 61 (.getfield 33) 3 := dop_180 (dn_w dw104_3 13 rfl) rfl
theorem dX8_many_64 : DE cX8_many 64 (.getfield 69) 3 := dop_180 (dn_w dw104_4 0 rfl) rfl
theorem dX8_many_67 : DE cX8_many 67 (.ireturn) 1 := dop_172 (dn_w dw104_4 3 rfl)
theorem dX8_many_68 : DE cX8_many 68 (.aload_n 0) 1 := dop_42 (dn_w dw104_4 4 rfl)
theorem dX8_many_69 : DE cX8_many 69 (.getfield 59) 3 := dop_180 (dn_w dw104_4 5 rfl) rfl
theorem dX8_many_72 : DE cX8_many 72 (.getfield 281) 3 := dop_180 (dn_w dw104_4 8 rfl) rfl
theorem dX8_many_75 : DE cX8_many 75 (.ireturn) 1 := dop_172 (dn_w dw104_4 11 rfl)
theorem dX8_many_76 : DE cX8_many 76 (.iconst (-1)) 1 := dop_2 (dn_w dw104_4 12 rfl)
theorem dX8_many_77 : DE cX8_many 77 (.ireturn) 1 := dop_172 (dn_w dw104_4 13 rfl)
noncomputable def dt105_1 : List Nat := 4 :: 172 :: []
noncomputable def dt105_0 : List Nat := 42 :: 180 :: 0 :: 16 :: 42 :: 180 :: 0 :: 10 :: 182 :: 0 :: 80 :: 42 :: 4 :: 181 :: 0 :: 19 :: dt105_1
theorem dw105_0 : dn cX8_keep 0 = dt105_0 := by decide +kernel
theorem dw105_1 : dn cX8_keep 16 = dt105_1 := dn_w dw105_0 16 rfl
theorem dX8_keep_0 : DE cX8_keep 0 (.aload_n 0) 1 := dop_42 (dn_w dw105_0 0 rfl)
theorem dX8_keep_1 : DE cX8_keep 1 (.getfield 16) 3 := dop_180 (dn_w dw105_0 1 rfl) rfl
theorem dX8_keep_4 : DE cX8_keep 4 (.aload_n 0) 1 := dop_42 (dn_w dw105_0 4 rfl)
theorem dX8_keep_5 : DE cX8_keep 5 (.getfield 10) 3 := dop_180 (dn_w dw105_0 5 rfl) rfl
theorem dX8_keep_8 : DE cX8_keep 8 (.invokevirtual 80) 3 := dop_182 (dn_w dw105_0 8 rfl) rfl
theorem dX8_keep_11 : DE cX8_keep 11 (.aload_n 0) 1 := dop_42 (dn_w dw105_0 11 rfl)
theorem dX8_keep_12 : DE cX8_keep 12 (.iconst 1) 1 := dop_4 (dn_w dw105_0 12 rfl)
theorem dX8_keep_13 : DE cX8_keep 13 (.putfield 19) 3 := dop_181 (dn_w dw105_0 13 rfl) rfl
theorem dX8_keep_16 : DE cX8_keep 16 (.iconst 1) 1 := dop_4 (dn_w dw105_1 0 rfl)
theorem dX8_keep_17 : DE cX8_keep 17 (.ireturn) 1 := dop_172 (dn_w dw105_1 1 rfl)
noncomputable def dt106_1 : List Nat := 0 :: 16 :: 182 :: 0 :: 80 :: 42 :: 180 :: 0 :: 10 :: 180 :: 0 :: 140 :: 172 :: []
noncomputable def dt106_0 : List Nat := 42 :: 180 :: 0 :: 19 :: 154 :: 0 :: 6 :: 16 :: 253 :: 172 :: 42 :: 180 :: 0 :: 10 :: 42 :: 180 :: dt106_1
theorem dw106_0 : dn cX8_again 0 = dt106_0 := by decide +kernel
theorem dw106_1 : dn cX8_again 16 = dt106_1 := dn_w dw106_0 16 rfl
theorem dX8_again_0 : DE cX8_again 0 (.aload_n 0) 1 := dop_42 (dn_w dw106_0 0 rfl)
theorem dX8_again_1 : DE cX8_again 1 (.getfield 19) 3 := dop_180 (dn_w dw106_0 1 rfl) rfl
theorem dX8_again_4 : DE cX8_again 4 (.ifCond .ne 6) 3 := dop_154 (dn_w dw106_0 4 rfl) rfl
theorem dX8_again_7 : DE cX8_again 7 (.bipush (-3)) 2 := dop_16 (dn_w dw106_0 7 rfl) rfl
theorem dX8_again_9 : DE cX8_again 9 (.ireturn) 1 := dop_172 (dn_w dw106_0 9 rfl)
theorem dX8_again_10 : DE cX8_again 10 (.aload_n 0) 1 := dop_42 (dn_w dw106_0 10 rfl)
theorem dX8_again_11 : DE cX8_again 11 (.getfield 10) 3 := dop_180 (dn_w dw106_0 11 rfl) rfl
theorem dX8_again_14 : DE cX8_again 14 (.aload_n 0) 1 := dop_42 (dn_w dw106_0 14 rfl)
theorem dX8_again_15 : DE cX8_again 15 (.getfield 16) 3 := dop_180 (dn_w dw106_0 15 rfl) rfl
theorem dX8_again_18 : DE cX8_again 18 (.invokevirtual 80) 3 := dop_182 (dn_w dw106_1 2 rfl) rfl
theorem dX8_again_21 : DE cX8_again 21 (.aload_n 0) 1 := dop_42 (dn_w dw106_1 5 rfl)
theorem dX8_again_22 : DE cX8_again 22 (.getfield 10) 3 := dop_180 (dn_w dw106_1 6 rfl) rfl
theorem dX8_again_25 : DE cX8_again 25 (.getfield 140) 3 := dop_180 (dn_w dw106_1 9 rfl) rfl
theorem dX8_again_28 : DE cX8_again 28 (.ireturn) 1 := dop_172 (dn_w dw106_1 12 rfl)
noncomputable def dt107_0 : List Nat := 26 :: 155 :: 0 :: 13 :: 26 :: 16 :: 6 :: 162 :: 0 :: 7 :: 4 :: 167 :: 0 :: 4 :: 3 :: 172 :: []
theorem dw107_0 : dn cX8_isKind 0 = dt107_0 := by decide +kernel
theorem dX8_isKind_0 : DE cX8_isKind 0 (.iload_n 0) 1 := dop_26 (dn_w dw107_0 0 rfl)
theorem dX8_isKind_1 : DE cX8_isKind 1 (.ifCond .lt 13) 3 := dop_155 (dn_w dw107_0 1 rfl) rfl
theorem dX8_isKind_4 : DE cX8_isKind 4 (.iload_n 0) 1 := dop_26 (dn_w dw107_0 4 rfl)
theorem dX8_isKind_5 : DE cX8_isKind 5 (.bipush 6) 2 := dop_16 (dn_w dw107_0 5 rfl) rfl
theorem dX8_isKind_7 : DE cX8_isKind 7 (.if_icmp .ge 7) 3 := dop_162 (dn_w dw107_0 7 rfl) rfl
theorem dX8_isKind_10 : DE cX8_isKind 10 (.iconst 1) 1 := dop_4 (dn_w dw107_0 10 rfl)
theorem dX8_isKind_11 : DE cX8_isKind 11 (.goto 4) 3 := dop_167 (dn_w dw107_0 11 rfl) rfl
theorem dX8_isKind_14 : DE cX8_isKind 14 (.iconst 0) 1 := dop_3 (dn_w dw107_0 14 rfl)
theorem dX8_isKind_15 : DE cX8_isKind 15 (.ireturn) 1 := dop_172 (dn_w dw107_0 15 rfl)
noncomputable def dt108_0 : List Nat := 26 :: 155 :: 0 :: 13 :: 26 :: 16 :: 9 :: 163 :: 0 :: 7 :: 4 :: 167 :: 0 :: 4 :: 3 :: 172 :: []
theorem dw108_0 : dn cX8_isA 0 = dt108_0 := by decide +kernel
theorem dX8_isA_0 : DE cX8_isA 0 (.iload_n 0) 1 := dop_26 (dn_w dw108_0 0 rfl)
theorem dX8_isA_1 : DE cX8_isA 1 (.ifCond .lt 13) 3 := dop_155 (dn_w dw108_0 1 rfl) rfl
theorem dX8_isA_4 : DE cX8_isA 4 (.iload_n 0) 1 := dop_26 (dn_w dw108_0 4 rfl)
theorem dX8_isA_5 : DE cX8_isA 5 (.bipush 9) 2 := dop_16 (dn_w dw108_0 5 rfl) rfl
theorem dX8_isA_7 : DE cX8_isA 7 (.if_icmp .gt 7) 3 := dop_163 (dn_w dw108_0 7 rfl) rfl
theorem dX8_isA_10 : DE cX8_isA 10 (.iconst 1) 1 := dop_4 (dn_w dw108_0 10 rfl)
theorem dX8_isA_11 : DE cX8_isA 11 (.goto 4) 3 := dop_167 (dn_w dw108_0 11 rfl) rfl
theorem dX8_isA_14 : DE cX8_isA 14 (.iconst 0) 1 := dop_3 (dn_w dw108_0 14 rfl)
theorem dX8_isA_15 : DE cX8_isA 15 (.ireturn) 1 := dop_172 (dn_w dw108_0 15 rfl)
noncomputable def dt109_0 : List Nat := 26 :: 155 :: 0 :: 13 :: 26 :: 16 :: 6 :: 162 :: 0 :: 7 :: 4 :: 167 :: 0 :: 4 :: 3 :: 172 :: []
theorem dw109_0 : dn cX8_isHouse 0 = dt109_0 := by decide +kernel
theorem dX8_isHouse_0 : DE cX8_isHouse 0 (.iload_n 0) 1 := dop_26 (dn_w dw109_0 0 rfl)
theorem dX8_isHouse_1 : DE cX8_isHouse 1 (.ifCond .lt 13) 3 := dop_155 (dn_w dw109_0 1 rfl) rfl
theorem dX8_isHouse_4 : DE cX8_isHouse 4 (.iload_n 0) 1 := dop_26 (dn_w dw109_0 4 rfl)
theorem dX8_isHouse_5 : DE cX8_isHouse 5 (.bipush 6) 2 := dop_16 (dn_w dw109_0 5 rfl) rfl
theorem dX8_isHouse_7 : DE cX8_isHouse 7 (.if_icmp .ge 7) 3 := dop_162 (dn_w dw109_0 7 rfl) rfl
theorem dX8_isHouse_10 : DE cX8_isHouse 10 (.iconst 1) 1 := dop_4 (dn_w dw109_0 10 rfl)
theorem dX8_isHouse_11 : DE cX8_isHouse 11 (.goto 4) 3 := dop_167 (dn_w dw109_0 11 rfl) rfl
theorem dX8_isHouse_14 : DE cX8_isHouse 14 (.iconst 0) 1 := dop_3 (dn_w dw109_0 14 rfl)
theorem dX8_isHouse_15 : DE cX8_isHouse 15 (.ireturn) 1 := dop_172 (dn_w dw109_0 15 rfl)
noncomputable def dt110_0 : List Nat := 26 :: 155 :: 0 :: 13 :: 26 :: 16 :: 40 :: 162 :: 0 :: 7 :: 4 :: 167 :: 0 :: 4 :: 3 :: 172 :: []
theorem dw110_0 : dn cX8_isDay 0 = dt110_0 := by decide +kernel
theorem dX8_isDay_0 : DE cX8_isDay 0 (.iload_n 0) 1 := dop_26 (dn_w dw110_0 0 rfl)
theorem dX8_isDay_1 : DE cX8_isDay 1 (.ifCond .lt 13) 3 := dop_155 (dn_w dw110_0 1 rfl) rfl
theorem dX8_isDay_4 : DE cX8_isDay 4 (.iload_n 0) 1 := dop_26 (dn_w dw110_0 4 rfl)
theorem dX8_isDay_5 : DE cX8_isDay 5 (.bipush 40) 2 := dop_16 (dn_w dw110_0 5 rfl) rfl
theorem dX8_isDay_7 : DE cX8_isDay 7 (.if_icmp .ge 7) 3 := dop_162 (dn_w dw110_0 7 rfl) rfl
theorem dX8_isDay_10 : DE cX8_isDay 10 (.iconst 1) 1 := dop_4 (dn_w dw110_0 10 rfl)
theorem dX8_isDay_11 : DE cX8_isDay 11 (.goto 4) 3 := dop_167 (dn_w dw110_0 11 rfl) rfl
theorem dX8_isDay_14 : DE cX8_isDay 14 (.iconst 0) 1 := dop_3 (dn_w dw110_0 14 rfl)
theorem dX8_isDay_15 : DE cX8_isDay 15 (.ireturn) 1 := dop_172 (dn_w dw110_0 15 rfl)
noncomputable def dt111_0 : List Nat := 26 :: 155 :: 0 :: 13 :: 26 :: 16 :: 20 :: 163 :: 0 :: 7 :: 4 :: 167 :: 0 :: 4 :: 3 :: 172 :: []
theorem dw111_0 : dn cX8_isTrial 0 = dt111_0 := by decide +kernel
theorem dX8_isTrial_0 : DE cX8_isTrial 0 (.iload_n 0) 1 := dop_26 (dn_w dw111_0 0 rfl)
theorem dX8_isTrial_1 : DE cX8_isTrial 1 (.ifCond .lt 13) 3 := dop_155 (dn_w dw111_0 1 rfl) rfl
theorem dX8_isTrial_4 : DE cX8_isTrial 4 (.iload_n 0) 1 := dop_26 (dn_w dw111_0 4 rfl)
theorem dX8_isTrial_5 : DE cX8_isTrial 5 (.bipush 20) 2 := dop_16 (dn_w dw111_0 5 rfl) rfl
theorem dX8_isTrial_7 : DE cX8_isTrial 7 (.if_icmp .gt 7) 3 := dop_163 (dn_w dw111_0 7 rfl) rfl
theorem dX8_isTrial_10 : DE cX8_isTrial 10 (.iconst 1) 1 := dop_4 (dn_w dw111_0 10 rfl)
theorem dX8_isTrial_11 : DE cX8_isTrial 11 (.goto 4) 3 := dop_167 (dn_w dw111_0 11 rfl) rfl
theorem dX8_isTrial_14 : DE cX8_isTrial 14 (.iconst 0) 1 := dop_3 (dn_w dw111_0 14 rfl)
theorem dX8_isTrial_15 : DE cX8_isTrial 15 (.ireturn) 1 := dop_172 (dn_w dw111_0 15 rfl)
noncomputable def dt112_0 : List Nat := 26 :: 155 :: 0 :: 12 :: 26 :: 7 :: 162 :: 0 :: 7 :: 4 :: 167 :: 0 :: 4 :: 3 :: 172 :: []
theorem dw112_0 : dn cX8_isSheet 0 = dt112_0 := by decide +kernel
theorem dX8_isSheet_0 : DE cX8_isSheet 0 (.iload_n 0) 1 := dop_26 (dn_w dw112_0 0 rfl)
theorem dX8_isSheet_1 : DE cX8_isSheet 1 (.ifCond .lt 12) 3 := dop_155 (dn_w dw112_0 1 rfl) rfl
theorem dX8_isSheet_4 : DE cX8_isSheet 4 (.iload_n 0) 1 := dop_26 (dn_w dw112_0 4 rfl)
theorem dX8_isSheet_5 : DE cX8_isSheet 5 (.iconst 4) 1 := dop_7 (dn_w dw112_0 5 rfl)
theorem dX8_isSheet_6 : DE cX8_isSheet 6 (.if_icmp .ge 7) 3 := dop_162 (dn_w dw112_0 6 rfl) rfl
theorem dX8_isSheet_9 : DE cX8_isSheet 9 (.iconst 1) 1 := dop_4 (dn_w dw112_0 9 rfl)
theorem dX8_isSheet_10 : DE cX8_isSheet 10 (.goto 4) 3 := dop_167 (dn_w dw112_0 10 rfl) rfl
theorem dX8_isSheet_13 : DE cX8_isSheet 13 (.iconst 0) 1 := dop_3 (dn_w dw112_0 13 rfl)
theorem dX8_isSheet_14 : DE cX8_isSheet 14 (.ireturn) 1 := dop_172 (dn_w dw112_0 14 rfl)
noncomputable def dt113_0 : List Nat := 26 :: 155 :: 0 :: 12 :: 26 :: 7 :: 162 :: 0 :: 7 :: 4 :: 167 :: 0 :: 4 :: 3 :: 172 :: []
theorem dw113_0 : dn cX8_isShelf 0 = dt113_0 := by decide +kernel
theorem dX8_isShelf_0 : DE cX8_isShelf 0 (.iload_n 0) 1 := dop_26 (dn_w dw113_0 0 rfl)
theorem dX8_isShelf_1 : DE cX8_isShelf 1 (.ifCond .lt 12) 3 := dop_155 (dn_w dw113_0 1 rfl) rfl
theorem dX8_isShelf_4 : DE cX8_isShelf 4 (.iload_n 0) 1 := dop_26 (dn_w dw113_0 4 rfl)
theorem dX8_isShelf_5 : DE cX8_isShelf 5 (.iconst 4) 1 := dop_7 (dn_w dw113_0 5 rfl)
theorem dX8_isShelf_6 : DE cX8_isShelf 6 (.if_icmp .ge 7) 3 := dop_162 (dn_w dw113_0 6 rfl) rfl
theorem dX8_isShelf_9 : DE cX8_isShelf 9 (.iconst 1) 1 := dop_4 (dn_w dw113_0 9 rfl)
theorem dX8_isShelf_10 : DE cX8_isShelf 10 (.goto 4) 3 := dop_167 (dn_w dw113_0 10 rfl) rfl
theorem dX8_isShelf_13 : DE cX8_isShelf 13 (.iconst 0) 1 := dop_3 (dn_w dw113_0 13 rfl)
theorem dX8_isShelf_14 : DE cX8_isShelf 14 (.ireturn) 1 := dop_172 (dn_w dw113_0 14 rfl)
noncomputable def dt114_0 : List Nat := 26 :: 155 :: 0 :: 12 :: 26 :: 7 :: 162 :: 0 :: 7 :: 4 :: 167 :: 0 :: 4 :: 3 :: 172 :: []
theorem dw114_0 : dn cX8_isSort 0 = dt114_0 := by decide +kernel
theorem dX8_isSort_0 : DE cX8_isSort 0 (.iload_n 0) 1 := dop_26 (dn_w dw114_0 0 rfl)
theorem dX8_isSort_1 : DE cX8_isSort 1 (.ifCond .lt 12) 3 := dop_155 (dn_w dw114_0 1 rfl) rfl
theorem dX8_isSort_4 : DE cX8_isSort 4 (.iload_n 0) 1 := dop_26 (dn_w dw114_0 4 rfl)
theorem dX8_isSort_5 : DE cX8_isSort 5 (.iconst 4) 1 := dop_7 (dn_w dw114_0 5 rfl)
theorem dX8_isSort_6 : DE cX8_isSort 6 (.if_icmp .ge 7) 3 := dop_162 (dn_w dw114_0 6 rfl) rfl
theorem dX8_isSort_9 : DE cX8_isSort 9 (.iconst 1) 1 := dop_4 (dn_w dw114_0 9 rfl)
theorem dX8_isSort_10 : DE cX8_isSort 10 (.goto 4) 3 := dop_167 (dn_w dw114_0 10 rfl) rfl
theorem dX8_isSort_13 : DE cX8_isSort 13 (.iconst 0) 1 := dop_3 (dn_w dw114_0 13 rfl)
theorem dX8_isSort_14 : DE cX8_isSort 14 (.ireturn) 1 := dop_172 (dn_w dw114_0 14 rfl)
noncomputable def dt115_2 : List Nat := 167 :: 255 :: 228 :: 3 :: 172 :: []
noncomputable def dt115_1 : List Nat := 28 :: 27 :: 160 :: 0 :: 5 :: 4 :: 172 :: 178 :: 1 :: 34 :: 28 :: 46 :: 61 :: 132 :: 3 :: 1 :: dt115_2
noncomputable def dt115_0 : List Nat := 26 :: 61 :: 3 :: 62 :: 29 :: 6 :: 162 :: 0 :: 29 :: 28 :: 184 :: 0 :: 88 :: 153 :: 0 :: 22 :: dt115_1
theorem dw115_0 : dn cX8_isUnder 0 = dt115_0 := by decide +kernel
theorem dw115_1 : dn cX8_isUnder 16 = dt115_1 := dn_w dw115_0 16 rfl
theorem dw115_2 : dn cX8_isUnder 32 = dt115_2 := dn_w dw115_1 16 rfl
theorem dX8_isUnder_0 : DE cX8_isUnder 0 (.iload_n 0) 1 := dop_26 (dn_w dw115_0 0 rfl)
theorem dX8_isUnder_1 : DE cX8_isUnder 1 (.istore_n 2) 1 := dop_61 (dn_w dw115_0 1 rfl)
theorem dX8_isUnder_2 : DE cX8_isUnder 2 (.iconst 0) 1 := dop_3 (dn_w dw115_0 2 rfl)
theorem dX8_isUnder_3 : DE cX8_isUnder 3 (.istore_n 3) 1 := dop_62 (dn_w dw115_0 3 rfl)
theorem dX8_isUnder_4 : DE cX8_isUnder 4 (.iload_n 3) 1 := dop_29 (dn_w dw115_0 4 rfl)
theorem dX8_isUnder_5 : DE cX8_isUnder 5 (.iconst 3) 1 := dop_6 (dn_w dw115_0 5 rfl)
theorem dX8_isUnder_6 : DE cX8_isUnder 6 (.if_icmp .ge 29) 3 := dop_162 (dn_w dw115_0 6 rfl) rfl
theorem dX8_isUnder_9 : DE cX8_isUnder 9 (.iload_n 2) 1 := dop_28 (dn_w dw115_0 9 rfl)
theorem dX8_isUnder_10 : DE cX8_isUnder 10 (.invokestatic 88) 3 := dop_184 (dn_w dw115_0 10 rfl) rfl
theorem dX8_isUnder_13 : DE cX8_isUnder 13 (.ifCond .eq 22) 3 := dop_153 (dn_w dw115_0 13 rfl) rfl
theorem dX8_isUnder_16 : DE cX8_isUnder 16 (.iload_n 2) 1 := dop_28 (dn_w dw115_1 0 rfl)
theorem dX8_isUnder_17 : DE cX8_isUnder 17 (.iload_n 1) 1 := dop_27 (dn_w dw115_1 1 rfl)
theorem dX8_isUnder_18 : DE cX8_isUnder 18 (.if_icmp .ne 5) 3 := dop_160 (dn_w dw115_1 2 rfl) rfl
theorem dX8_isUnder_21 : DE cX8_isUnder 21 (.iconst 1) 1 := dop_4 (dn_w dw115_1 5 rfl)
theorem dX8_isUnder_22 : DE cX8_isUnder 22 (.ireturn) 1 := dop_172 (dn_w dw115_1 6 rfl)
theorem dX8_isUnder_23 : DE cX8_isUnder 23 (.getstatic 290) 3 := dop_178 (dn_w dw115_1 7 rfl) rfl
theorem dX8_isUnder_26 : DE cX8_isUnder 26 (.iload_n 2) 1 := dop_28 (dn_w dw115_1 10 rfl)
theorem dX8_isUnder_27 : DE cX8_isUnder 27 (.iaload) 1 := dop_46 (dn_w dw115_1 11 rfl)
theorem dX8_isUnder_28 : DE cX8_isUnder 28 (.istore_n 2) 1 := dop_61 (dn_w dw115_1 12 rfl)
theorem dX8_isUnder_29 : DE cX8_isUnder 29 (.iinc 3 1) 3 := dop_132 (dn_w dw115_1 13 rfl) rfl
theorem dX8_isUnder_32 : DE cX8_isUnder 32 (.goto (-28)) 3 := dop_167 (dn_w dw115_2 0 rfl) rfl
theorem dX8_isUnder_35 : DE cX8_isUnder 35 (.iconst 0) 1 := dop_3 (dn_w dw115_2 3 rfl)
theorem dX8_isUnder_36 : DE cX8_isUnder 36 (.ireturn) 1 := dop_172 (dn_w dw115_2 4 rfl)
noncomputable def dt116_1 : List Nat := 0 :: 102 :: 153 :: 0 :: 7 :: 4 :: 167 :: 0 :: 4 :: 3 :: 172 :: []
noncomputable def dt116_0 : List Nat := 43 :: 180 :: 1 :: 4 :: 154 :: 0 :: 21 :: 42 :: 180 :: 0 :: 10 :: 43 :: 180 :: 1 :: 8 :: 182 :: dt116_1
theorem dw116_0 : dn cX8_holdsChild 0 = dt116_0 := by decide +kernel
theorem dw116_1 : dn cX8_holdsChild 16 = dt116_1 := dn_w dw116_0 16 rfl
theorem dX8_holdsChild_0 : DE cX8_holdsChild 0 (.aload_n 1) 1 := dop_43 (dn_w dw116_0 0 rfl)
theorem dX8_holdsChild_1 : DE cX8_holdsChild 1 (.getfield 260) 3 := dop_180 (dn_w dw116_0 1 rfl) rfl
theorem dX8_holdsChild_4 : DE cX8_holdsChild 4 (.ifCond .ne 21) 3 := dop_154 (dn_w dw116_0 4 rfl) rfl
theorem dX8_holdsChild_7 : DE cX8_holdsChild 7 (.aload_n 0) 1 := dop_42 (dn_w dw116_0 7 rfl)
theorem dX8_holdsChild_8 : DE cX8_holdsChild 8 (.getfield 10) 3 := dop_180 (dn_w dw116_0 8 rfl) rfl
theorem dX8_holdsChild_11 : DE cX8_holdsChild 11 (.aload_n 1) 1 := dop_43 (dn_w dw116_0 11 rfl)
theorem dX8_holdsChild_12 : DE cX8_holdsChild 12 (.getfield 264) 3 := dop_180 (dn_w dw116_0 12 rfl) rfl
theorem dX8_holdsChild_15 : DE cX8_holdsChild 15 (.invokevirtual 102) 3 := dop_182 (dn_w dw116_0 15 rfl) rfl
theorem dX8_holdsChild_18 : DE cX8_holdsChild 18 (.ifCond .eq 7) 3 := dop_153 (dn_w dw116_1 2 rfl) rfl
theorem dX8_holdsChild_21 : DE cX8_holdsChild 21 (.iconst 1) 1 := dop_4 (dn_w dw116_1 5 rfl)
theorem dX8_holdsChild_22 : DE cX8_holdsChild 22 (.goto 4) 3 := dop_167 (dn_w dw116_1 6 rfl) rfl
theorem dX8_holdsChild_25 : DE cX8_holdsChild 25 (.iconst 0) 1 := dop_3 (dn_w dw116_1 9 rfl)
theorem dX8_holdsChild_26 : DE cX8_holdsChild 26 (.ireturn) 1 := dop_172 (dn_w dw116_1 10 rfl)
noncomputable def dt117_17 : List Nat := 42 :: 5 :: 188 :: 10 :: 181 :: 0 :: 84 :: 177 :: []
noncomputable def dt117_16 : List Nat := 16 :: 30 :: 188 :: 10 :: 181 :: 0 :: 78 :: 42 :: 17 :: 0 :: 190 :: 188 :: 10 :: 181 :: 0 :: 81 :: dt117_17
noncomputable def dt117_15 : List Nat := 69 :: 42 :: 7 :: 188 :: 10 :: 181 :: 0 :: 72 :: 42 :: 7 :: 188 :: 10 :: 181 :: 0 :: 75 :: 42 :: dt117_16
noncomputable def dt117_14 : List Nat := 2 :: 79 :: 89 :: 4 :: 2 :: 79 :: 89 :: 5 :: 2 :: 79 :: 89 :: 6 :: 2 :: 79 :: 181 :: 0 :: dt117_15
noncomputable def dt117_13 : List Nat := 62 :: 42 :: 17 :: 0 :: 160 :: 188 :: 11 :: 181 :: 0 :: 65 :: 42 :: 7 :: 188 :: 10 :: 89 :: 3 :: dt117_14
noncomputable def dt117_12 : List Nat := 5 :: 2 :: 79 :: 89 :: 6 :: 2 :: 79 :: 181 :: 0 :: 59 :: 42 :: 7 :: 188 :: 10 :: 181 :: 0 :: dt117_13
noncomputable def dt117_11 : List Nat := 181 :: 0 :: 56 :: 42 :: 7 :: 188 :: 10 :: 89 :: 3 :: 2 :: 79 :: 89 :: 4 :: 2 :: 79 :: 89 :: dt117_12
noncomputable def dt117_10 : List Nat := 181 :: 0 :: 50 :: 42 :: 16 :: 60 :: 188 :: 10 :: 181 :: 0 :: 53 :: 42 :: 16 :: 60 :: 188 :: 10 :: dt117_11
noncomputable def dt117_9 : List Nat := 10 :: 181 :: 0 :: 44 :: 42 :: 16 :: 40 :: 188 :: 10 :: 181 :: 0 :: 47 :: 42 :: 7 :: 188 :: 10 :: dt117_10
noncomputable def dt117_8 : List Nat := 10 :: 181 :: 0 :: 38 :: 42 :: 16 :: 32 :: 188 :: 10 :: 181 :: 0 :: 41 :: 42 :: 16 :: 8 :: 188 :: dt117_9
noncomputable def dt117_7 : List Nat := 16 :: 20 :: 79 :: 181 :: 0 :: 31 :: 42 :: 4 :: 181 :: 0 :: 34 :: 42 :: 17 :: 0 :: 240 :: 188 :: dt117_8
noncomputable def dt117_6 : List Nat := 3 :: 16 :: 20 :: 79 :: 89 :: 4 :: 16 :: 30 :: 79 :: 89 :: 5 :: 16 :: 8 :: 79 :: 89 :: 6 :: dt117_7
noncomputable def dt117_5 : List Nat := 89 :: 5 :: 4 :: 79 :: 89 :: 6 :: 4 :: 79 :: 181 :: 0 :: 28 :: 42 :: 7 :: 188 :: 10 :: 89 :: dt117_6
noncomputable def dt117_4 : List Nat := 79 :: 181 :: 0 :: 25 :: 42 :: 7 :: 188 :: 10 :: 89 :: 3 :: 4 :: 79 :: 89 :: 4 :: 5 :: 79 :: dt117_5
noncomputable def dt117_3 : List Nat := 89 :: 3 :: 8 :: 79 :: 89 :: 4 :: 16 :: 11 :: 79 :: 89 :: 5 :: 5 :: 79 :: 89 :: 6 :: 6 :: dt117_4
noncomputable def dt117_2 : List Nat := 10 :: 181 :: 0 :: 19 :: 42 :: 16 :: 40 :: 188 :: 10 :: 181 :: 0 :: 22 :: 42 :: 7 :: 188 :: 10 :: dt117_3
noncomputable def dt117_1 : List Nat := 10 :: 181 :: 0 :: 13 :: 42 :: 16 :: 40 :: 188 :: 10 :: 181 :: 0 :: 16 :: 42 :: 16 :: 40 :: 188 :: dt117_2
noncomputable def dt117_0 : List Nat := 42 :: 183 :: 0 :: 1 :: 42 :: 16 :: 32 :: 188 :: 10 :: 181 :: 0 :: 7 :: 42 :: 16 :: 50 :: 188 :: dt117_1
theorem dw117_0 : dn cX9_init 0 = dt117_0 := by decide +kernel
theorem dw117_1 : dn cX9_init 16 = dt117_1 := dn_w dw117_0 16 rfl
theorem dw117_2 : dn cX9_init 32 = dt117_2 := dn_w dw117_1 16 rfl
theorem dw117_3 : dn cX9_init 48 = dt117_3 := dn_w dw117_2 16 rfl
theorem dw117_4 : dn cX9_init 64 = dt117_4 := dn_w dw117_3 16 rfl
theorem dw117_5 : dn cX9_init 80 = dt117_5 := dn_w dw117_4 16 rfl
theorem dw117_6 : dn cX9_init 96 = dt117_6 := dn_w dw117_5 16 rfl
theorem dw117_7 : dn cX9_init 112 = dt117_7 := dn_w dw117_6 16 rfl
theorem dw117_8 : dn cX9_init 128 = dt117_8 := dn_w dw117_7 16 rfl
theorem dw117_9 : dn cX9_init 144 = dt117_9 := dn_w dw117_8 16 rfl
theorem dw117_10 : dn cX9_init 160 = dt117_10 := dn_w dw117_9 16 rfl
theorem dw117_11 : dn cX9_init 176 = dt117_11 := dn_w dw117_10 16 rfl
theorem dw117_12 : dn cX9_init 192 = dt117_12 := dn_w dw117_11 16 rfl
theorem dw117_13 : dn cX9_init 208 = dt117_13 := dn_w dw117_12 16 rfl
theorem dw117_14 : dn cX9_init 224 = dt117_14 := dn_w dw117_13 16 rfl
theorem dw117_15 : dn cX9_init 240 = dt117_15 := dn_w dw117_14 16 rfl
theorem dw117_16 : dn cX9_init 256 = dt117_16 := dn_w dw117_15 16 rfl
theorem dw117_17 : dn cX9_init 272 = dt117_17 := dn_w dw117_16 16 rfl
theorem dX9_init_0 : DE cX9_init 0 (.aload_n 0) 1 := dop_42 (dn_w dw117_0 0 rfl)
theorem dX9_init_1 : DE cX9_init 1 (.invokespecial 1) 3 := dop_183 (dn_w dw117_0 1 rfl) rfl
theorem dX9_init_4 : DE cX9_init 4 (.aload_n 0) 1 := dop_42 (dn_w dw117_0 4 rfl)
theorem dX9_init_5 : DE cX9_init 5 (.bipush 32) 2 := dop_16 (dn_w dw117_0 5 rfl) rfl
theorem dX9_init_7 : decode cX9_init 7 = .ok (.newarray .int, 2) := by decide +kernel
theorem dX9_init_9 : DE cX9_init 9 (.putfield 7) 3 := dop_181 (dn_w dw117_0 9 rfl) rfl
theorem dX9_init_12 : DE cX9_init 12 (.aload_n 0) 1 := dop_42 (dn_w dw117_0 12 rfl)
theorem dX9_init_13 : DE cX9_init 13 (.bipush 50) 2 := dop_16 (dn_w dw117_0 13 rfl) rfl
theorem dX9_init_15 : decode cX9_init 15 = .ok (.newarray .int, 2) := by decide +kernel
theorem dX9_init_17 : DE cX9_init 17 (.putfield 13) 3 := dop_181 (dn_w dw117_1 1 rfl) rfl
theorem dX9_init_20 : DE cX9_init 20 (.aload_n 0) 1 := dop_42 (dn_w dw117_1 4 rfl)
theorem dX9_init_21 : DE cX9_init 21 (.bipush 40) 2 := dop_16 (dn_w dw117_1 5 rfl) rfl
theorem dX9_init_23 : decode cX9_init 23 = .ok (.newarray .int, 2) := by decide +kernel
theorem dX9_init_25 : DE cX9_init 25 (.putfield 16) 3 := dop_181 (dn_w dw117_1 9 rfl) rfl
theorem dX9_init_28 : DE cX9_init 28 (.aload_n 0) 1 := dop_42 (dn_w dw117_1 12 rfl)
theorem dX9_init_29 : DE cX9_init 29 (.bipush 40) 2 := dop_16 (dn_w dw117_1 13 rfl) rfl
theorem dX9_init_31 : decode cX9_init 31 = .ok (.newarray .int, 2) := by decide +kernel
theorem dX9_init_33 : DE cX9_init 33 (.putfield 19) 3 := dop_181 (dn_w dw117_2 1 rfl) rfl
theorem dX9_init_36 : DE cX9_init 36 (.aload_n 0) 1 := dop_42 (dn_w dw117_2 4 rfl)
theorem dX9_init_37 : DE cX9_init 37 (.bipush 40) 2 := dop_16 (dn_w dw117_2 5 rfl) rfl
theorem dX9_init_39 : decode cX9_init 39 = .ok (.newarray .int, 2) := by decide +kernel
theorem dX9_init_41 : DE cX9_init 41 (.putfield 22) 3 := dop_181 (dn_w dw117_2 9 rfl) rfl
theorem dX9_init_44 : DE cX9_init 44 (.aload_n 0) 1 := dop_42 (dn_w dw117_2 12 rfl)
theorem dX9_init_45 : DE cX9_init 45 (.iconst 4) 1 := dop_7 (dn_w dw117_2 13 rfl)
theorem dX9_init_46 : decode cX9_init 46 = .ok (.newarray .int, 2) := by decide +kernel
theorem dX9_init_48 : DE cX9_init 48 (.dup) 1 := dop_89 (dn_w dw117_3 0 rfl)
theorem dX9_init_49 : DE cX9_init 49 (.iconst 0) 1 := dop_3 (dn_w dw117_3 1 rfl)
theorem dX9_init_50 : DE cX9_init 50 (.iconst 5) 1 := dop_8 (dn_w dw117_3 2 rfl)
theorem dX9_init_51 : DE cX9_init 51 (.iastore) 1 := dop_79 (dn_w dw117_3 3 rfl)
theorem dX9_init_52 : DE cX9_init 52 (.dup) 1 := dop_89 (dn_w dw117_3 4 rfl)
theorem dX9_init_53 : DE cX9_init 53 (.iconst 1) 1 := dop_4 (dn_w dw117_3 5 rfl)
theorem dX9_init_54 : DE cX9_init 54 (.bipush 11) 2 := dop_16 (dn_w dw117_3 6 rfl) rfl
theorem dX9_init_56 : DE cX9_init 56 (.iastore) 1 := dop_79 (dn_w dw117_3 8 rfl)
theorem dX9_init_57 : DE cX9_init 57 (.dup) 1 := dop_89 (dn_w dw117_3 9 rfl)
theorem dX9_init_58 : DE cX9_init 58 (.iconst 2) 1 := dop_5 (dn_w dw117_3 10 rfl)
theorem dX9_init_59 : DE cX9_init 59 (.iconst 2) 1 := dop_5 (dn_w dw117_3 11 rfl)
theorem dX9_init_60 : DE cX9_init 60 (.iastore) 1 := dop_79 (dn_w dw117_3 12 rfl)
theorem dX9_init_61 : DE cX9_init 61 (.dup) 1 := dop_89 (dn_w dw117_3 13 rfl)
theorem dX9_init_62 : DE cX9_init 62 (.iconst 3) 1 := dop_6 (dn_w dw117_3 14 rfl)
theorem dX9_init_63 : DE cX9_init 63 (.iconst 3) 1 := dop_6 (dn_w dw117_3 15 rfl)
theorem dX9_init_64 : DE cX9_init 64 (.iastore) 1 := dop_79 (dn_w dw117_4 0 rfl)
theorem dX9_init_65 : DE cX9_init 65 (.putfield 25) 3 := dop_181 (dn_w dw117_4 1 rfl) rfl
theorem dX9_init_68 : DE cX9_init 68 (.aload_n 0) 1 := dop_42 (dn_w dw117_4 4 rfl)
theorem dX9_init_69 : DE cX9_init 69 (.iconst 4) 1 := dop_7 (dn_w dw117_4 5 rfl)
theorem dX9_init_70 : decode cX9_init 70 = .ok (.newarray .int, 2) := by decide +kernel
theorem dX9_init_72 : DE cX9_init 72 (.dup) 1 := dop_89 (dn_w dw117_4 8 rfl)
theorem dX9_init_73 : DE cX9_init 73 (.iconst 0) 1 := dop_3 (dn_w dw117_4 9 rfl)
theorem dX9_init_74 : DE cX9_init 74 (.iconst 1) 1 := dop_4 (dn_w dw117_4 10 rfl)
theorem dX9_init_75 : DE cX9_init 75 (.iastore) 1 := dop_79 (dn_w dw117_4 11 rfl)
theorem dX9_init_76 : DE cX9_init 76 (.dup) 1 := dop_89 (dn_w dw117_4 12 rfl)
theorem dX9_init_77 : DE cX9_init 77 (.iconst 1) 1 := dop_4 (dn_w dw117_4 13 rfl)
theorem dX9_init_78 : DE cX9_init 78 (.iconst 2) 1 := dop_5 (dn_w dw117_4 14 rfl)
theorem dX9_init_79 : DE cX9_init 79 (.iastore) 1 := dop_79 (dn_w dw117_4 15 rfl)
theorem dX9_init_80 : DE cX9_init 80 (.dup) 1 := dop_89 (dn_w dw117_5 0 rfl)
theorem dX9_init_81 : DE cX9_init 81 (.iconst 2) 1 := dop_5 (dn_w dw117_5 1 rfl)
theorem dX9_init_82 : DE cX9_init 82 (.iconst 1) 1 := dop_4 (dn_w dw117_5 2 rfl)
theorem dX9_init_83 : DE cX9_init 83 (.iastore) 1 := dop_79 (dn_w dw117_5 3 rfl)
theorem dX9_init_84 : DE cX9_init 84 (.dup) 1 := dop_89 (dn_w dw117_5 4 rfl)
theorem dX9_init_85 : DE cX9_init 85 (.iconst 3) 1 := dop_6 (dn_w dw117_5 5 rfl)
theorem dX9_init_86 : DE cX9_init 86 (.iconst 1) 1 := dop_4 (dn_w dw117_5 6 rfl)
theorem dX9_init_87 : DE cX9_init 87 (.iastore) 1 := dop_79 (dn_w dw117_5 7 rfl)
theorem dX9_init_88 : DE cX9_init 88 (.putfield 28) 3 := dop_181 (dn_w dw117_5 8 rfl) rfl
theorem dX9_init_91 : DE cX9_init 91 (.aload_n 0) 1 := dop_42 (dn_w dw117_5 11 rfl)
theorem dX9_init_92 : DE cX9_init 92 (.iconst 4) 1 := dop_7 (dn_w dw117_5 12 rfl)
theorem dX9_init_93 : decode cX9_init 93 = .ok (.newarray .int, 2) := by decide +kernel
theorem dX9_init_95 : DE cX9_init 95 (.dup) 1 := dop_89 (dn_w dw117_5 15 rfl)
theorem dX9_init_96 : DE cX9_init 96 (.iconst 0) 1 := dop_3 (dn_w dw117_6 0 rfl)
theorem dX9_init_97 : DE cX9_init 97 (.bipush 20) 2 := dop_16 (dn_w dw117_6 1 rfl) rfl
theorem dX9_init_99 : DE cX9_init 99 (.iastore) 1 := dop_79 (dn_w dw117_6 3 rfl)
theorem dX9_init_100 : DE cX9_init 100 (.dup) 1 := dop_89 (dn_w dw117_6 4 rfl)
theorem dX9_init_101 : DE cX9_init 101 (.iconst 1) 1 := dop_4 (dn_w dw117_6 5 rfl)
theorem dX9_init_102 : DE cX9_init 102 (.bipush 30) 2 := dop_16 (dn_w dw117_6 6 rfl) rfl
theorem dX9_init_104 : DE cX9_init 104 (.iastore) 1 := dop_79 (dn_w dw117_6 8 rfl)
theorem dX9_init_105 : DE cX9_init 105 (.dup) 1 := dop_89 (dn_w dw117_6 9 rfl)
theorem dX9_init_106 : DE cX9_init 106 (.iconst 2) 1 := dop_5 (dn_w dw117_6 10 rfl)
theorem dX9_init_107 : DE cX9_init 107 (.bipush 8) 2 := dop_16 (dn_w dw117_6 11 rfl) rfl
theorem dX9_init_109 : DE cX9_init 109 (.iastore) 1 := dop_79 (dn_w dw117_6 13 rfl)
theorem dX9_init_110 : DE cX9_init 110 (.dup) 1 := dop_89 (dn_w dw117_6 14 rfl)
theorem dX9_init_111 : DE cX9_init 111 (.iconst 3) 1 := dop_6 (dn_w dw117_6 15 rfl)
theorem dX9_init_112 : DE cX9_init 112 (.bipush 20) 2 := dop_16 (dn_w dw117_7 0 rfl) rfl
theorem dX9_init_114 : DE cX9_init 114 (.iastore) 1 := dop_79 (dn_w dw117_7 2 rfl)
theorem dX9_init_115 : DE cX9_init 115 (.putfield 31) 3 := dop_181 (dn_w dw117_7 3 rfl) rfl
theorem dX9_init_118 : DE cX9_init 118 (.aload_n 0) 1 := dop_42 (dn_w dw117_7 6 rfl)
theorem dX9_init_119 : DE cX9_init 119 (.iconst 1) 1 := dop_4 (dn_w dw117_7 7 rfl)
theorem dX9_init_120 : DE cX9_init 120 (.putfield 34) 3 := dop_181 (dn_w dw117_7 8 rfl) rfl
theorem dX9_init_123 : DE cX9_init 123 (.aload_n 0) 1 := dop_42 (dn_w dw117_7 11 rfl)
theorem dX9_init_124 : DE cX9_init 124 (.sipush 240) 3 := dop_17 (dn_w dw117_7 12 rfl) rfl
theorem dX9_init_127 : decode cX9_init 127 = .ok (.newarray .int, 2) := by decide +kernel
theorem dX9_init_129 : DE cX9_init 129 (.putfield 38) 3 := dop_181 (dn_w dw117_8 1 rfl) rfl
theorem dX9_init_132 : DE cX9_init 132 (.aload_n 0) 1 := dop_42 (dn_w dw117_8 4 rfl)
theorem dX9_init_133 : DE cX9_init 133 (.bipush 32) 2 := dop_16 (dn_w dw117_8 5 rfl) rfl
theorem dX9_init_135 : decode cX9_init 135 = .ok (.newarray .int, 2) := by decide +kernel
theorem dX9_init_137 : DE cX9_init 137 (.putfield 41) 3 := dop_181 (dn_w dw117_8 9 rfl) rfl
theorem dX9_init_140 : DE cX9_init 140 (.aload_n 0) 1 := dop_42 (dn_w dw117_8 12 rfl)
theorem dX9_init_141 : DE cX9_init 141 (.bipush 8) 2 := dop_16 (dn_w dw117_8 13 rfl) rfl
theorem dX9_init_143 : decode cX9_init 143 = .ok (.newarray .int, 2) := by decide +kernel
theorem dX9_init_145 : DE cX9_init 145 (.putfield 44) 3 := dop_181 (dn_w dw117_9 1 rfl) rfl
theorem dX9_init_148 : DE cX9_init 148 (.aload_n 0) 1 := dop_42 (dn_w dw117_9 4 rfl)
theorem dX9_init_149 : DE cX9_init 149 (.bipush 40) 2 := dop_16 (dn_w dw117_9 5 rfl) rfl
theorem dX9_init_151 : decode cX9_init 151 = .ok (.newarray .int, 2) := by decide +kernel
theorem dX9_init_153 : DE cX9_init 153 (.putfield 47) 3 := dop_181 (dn_w dw117_9 9 rfl) rfl
theorem dX9_init_156 : DE cX9_init 156 (.aload_n 0) 1 := dop_42 (dn_w dw117_9 12 rfl)
theorem dX9_init_157 : DE cX9_init 157 (.iconst 4) 1 := dop_7 (dn_w dw117_9 13 rfl)
theorem dX9_init_158 : decode cX9_init 158 = .ok (.newarray .int, 2) := by decide +kernel
theorem dX9_init_160 : DE cX9_init 160 (.putfield 50) 3 := dop_181 (dn_w dw117_10 0 rfl) rfl
theorem dX9_init_163 : DE cX9_init 163 (.aload_n 0) 1 := dop_42 (dn_w dw117_10 3 rfl)
theorem dX9_init_164 : DE cX9_init 164 (.bipush 60) 2 := dop_16 (dn_w dw117_10 4 rfl) rfl
theorem dX9_init_166 : decode cX9_init 166 = .ok (.newarray .int, 2) := by decide +kernel
theorem dX9_init_168 : DE cX9_init 168 (.putfield 53) 3 := dop_181 (dn_w dw117_10 8 rfl) rfl
theorem dX9_init_171 : DE cX9_init 171 (.aload_n 0) 1 := dop_42 (dn_w dw117_10 11 rfl)
theorem dX9_init_172 : DE cX9_init 172 (.bipush 60) 2 := dop_16 (dn_w dw117_10 12 rfl) rfl
theorem dX9_init_174 : decode cX9_init 174 = .ok (.newarray .int, 2) := by decide +kernel
theorem dX9_init_176 : DE cX9_init 176 (.putfield 56) 3 := dop_181 (dn_w dw117_11 0 rfl) rfl
theorem dX9_init_179 : DE cX9_init 179 (.aload_n 0) 1 := dop_42 (dn_w dw117_11 3 rfl)
theorem dX9_init_180 : DE cX9_init 180 (.iconst 4) 1 := dop_7 (dn_w dw117_11 4 rfl)
theorem dX9_init_181 : decode cX9_init 181 = .ok (.newarray .int, 2) := by decide +kernel
theorem dX9_init_183 : DE cX9_init 183 (.dup) 1 := dop_89 (dn_w dw117_11 7 rfl)
theorem dX9_init_184 : DE cX9_init 184 (.iconst 0) 1 := dop_3 (dn_w dw117_11 8 rfl)
theorem dX9_init_185 : DE cX9_init 185 (.iconst (-1)) 1 := dop_2 (dn_w dw117_11 9 rfl)
theorem dX9_init_186 : DE cX9_init 186 (.iastore) 1 := dop_79 (dn_w dw117_11 10 rfl)
theorem dX9_init_187 : DE cX9_init 187 (.dup) 1 := dop_89 (dn_w dw117_11 11 rfl)
theorem dX9_init_188 : DE cX9_init 188 (.iconst 1) 1 := dop_4 (dn_w dw117_11 12 rfl)
theorem dX9_init_189 : DE cX9_init 189 (.iconst (-1)) 1 := dop_2 (dn_w dw117_11 13 rfl)
theorem dX9_init_190 : DE cX9_init 190 (.iastore) 1 := dop_79 (dn_w dw117_11 14 rfl)
theorem dX9_init_191 : DE cX9_init 191 (.dup) 1 := dop_89 (dn_w dw117_11 15 rfl)
theorem dX9_init_192 : DE cX9_init 192 (.iconst 2) 1 := dop_5 (dn_w dw117_12 0 rfl)
theorem dX9_init_193 : DE cX9_init 193 (.iconst (-1)) 1 := dop_2 (dn_w dw117_12 1 rfl)
theorem dX9_init_194 : DE cX9_init 194 (.iastore) 1 := dop_79 (dn_w dw117_12 2 rfl)
theorem dX9_init_195 : DE cX9_init 195 (.dup) 1 := dop_89 (dn_w dw117_12 3 rfl)
theorem dX9_init_196 : DE cX9_init 196 (.iconst 3) 1 := dop_6 (dn_w dw117_12 4 rfl)
theorem dX9_init_197 : DE cX9_init 197 (.iconst (-1)) 1 := dop_2 (dn_w dw117_12 5 rfl)
theorem dX9_init_198 : DE cX9_init 198 (.iastore) 1 := dop_79 (dn_w dw117_12 6 rfl)
theorem dX9_init_199 : DE cX9_init 199 (.putfield 59) 3 := dop_181 (dn_w dw117_12 7 rfl) rfl
theorem dX9_init_202 : DE cX9_init 202 (.aload_n 0) 1 := dop_42 (dn_w dw117_12 10 rfl)
theorem dX9_init_203 : DE cX9_init 203 (.iconst 4) 1 := dop_7 (dn_w dw117_12 11 rfl)
theorem dX9_init_204 : decode cX9_init 204 = .ok (.newarray .int, 2) := by decide +kernel
theorem dX9_init_206 : DE cX9_init 206 (.putfield 62) 3 := dop_181 (dn_w dw117_12 14 rfl) rfl
theorem dX9_init_209 : DE cX9_init 209 (.aload_n 0) 1 := dop_42 (dn_w dw117_13 1 rfl)
theorem dX9_init_210 : DE cX9_init 210 (.sipush 160) 3 := dop_17 (dn_w dw117_13 2 rfl) rfl
theorem dX9_init_213 : decode cX9_init 213 = .ok (.newarray .long, 2) := by decide +kernel
theorem dX9_init_215 : DE cX9_init 215 (.putfield 65) 3 := dop_181 (dn_w dw117_13 7 rfl) rfl
theorem dX9_init_218 : DE cX9_init 218 (.aload_n 0) 1 := dop_42 (dn_w dw117_13 10 rfl)
theorem dX9_init_219 : DE cX9_init 219 (.iconst 4) 1 := dop_7 (dn_w dw117_13 11 rfl)
theorem dX9_init_220 : decode cX9_init 220 = .ok (.newarray .int, 2) := by decide +kernel
theorem dX9_init_222 : DE cX9_init 222 (.dup) 1 := dop_89 (dn_w dw117_13 14 rfl)
theorem dX9_init_223 : DE cX9_init 223 (.iconst 0) 1 := dop_3 (dn_w dw117_13 15 rfl)
theorem dX9_init_224 : DE cX9_init 224 (.iconst (-1)) 1 := dop_2 (dn_w dw117_14 0 rfl)
theorem dX9_init_225 : DE cX9_init 225 (.iastore) 1 := dop_79 (dn_w dw117_14 1 rfl)
theorem dX9_init_226 : DE cX9_init 226 (.dup) 1 := dop_89 (dn_w dw117_14 2 rfl)
theorem dX9_init_227 : DE cX9_init 227 (.iconst 1) 1 := dop_4 (dn_w dw117_14 3 rfl)
theorem dX9_init_228 : DE cX9_init 228 (.iconst (-1)) 1 := dop_2 (dn_w dw117_14 4 rfl)
theorem dX9_init_229 : DE cX9_init 229 (.iastore) 1 := dop_79 (dn_w dw117_14 5 rfl)
theorem dX9_init_230 : DE cX9_init 230 (.dup) 1 := dop_89 (dn_w dw117_14 6 rfl)
theorem dX9_init_231 : DE cX9_init 231 (.iconst 2) 1 := dop_5 (dn_w dw117_14 7 rfl)
theorem dX9_init_232 : DE cX9_init 232 (.iconst (-1)) 1 := dop_2 (dn_w dw117_14 8 rfl)
theorem dX9_init_233 : DE cX9_init 233 (.iastore) 1 := dop_79 (dn_w dw117_14 9 rfl)
theorem dX9_init_234 : DE cX9_init 234 (.dup) 1 := dop_89 (dn_w dw117_14 10 rfl)
theorem dX9_init_235 : DE cX9_init 235 (.iconst 3) 1 := dop_6 (dn_w dw117_14 11 rfl)
theorem dX9_init_236 : DE cX9_init 236 (.iconst (-1)) 1 := dop_2 (dn_w dw117_14 12 rfl)
theorem dX9_init_237 : DE cX9_init 237 (.iastore) 1 := dop_79 (dn_w dw117_14 13 rfl)
theorem dX9_init_238 : DE cX9_init 238 (.putfield 69) 3 := dop_181 (dn_w dw117_14 14 rfl) rfl
theorem dX9_init_241 : DE cX9_init 241 (.aload_n 0) 1 := dop_42 (dn_w dw117_15 1 rfl)
theorem dX9_init_242 : DE cX9_init 242 (.iconst 4) 1 := dop_7 (dn_w dw117_15 2 rfl)
theorem dX9_init_243 : decode cX9_init 243 = .ok (.newarray .int, 2) := by decide +kernel
theorem dX9_init_245 : DE cX9_init 245 (.putfield 72) 3 := dop_181 (dn_w dw117_15 5 rfl) rfl
theorem dX9_init_248 : DE cX9_init 248 (.aload_n 0) 1 := dop_42 (dn_w dw117_15 8 rfl)
theorem dX9_init_249 : DE cX9_init 249 (.iconst 4) 1 := dop_7 (dn_w dw117_15 9 rfl)
theorem dX9_init_250 : decode cX9_init 250 = .ok (.newarray .int, 2) := by decide +kernel
theorem dX9_init_252 : DE cX9_init 252 (.putfield 75) 3 := dop_181 (dn_w dw117_15 12 rfl) rfl
theorem dX9_init_255 : DE cX9_init 255 (.aload_n 0) 1 := dop_42 (dn_w dw117_15 15 rfl)
theorem dX9_init_256 : DE cX9_init 256 (.bipush 30) 2 := dop_16 (dn_w dw117_16 0 rfl) rfl
theorem dX9_init_258 : decode cX9_init 258 = .ok (.newarray .int, 2) := by decide +kernel
theorem dX9_init_260 : DE cX9_init 260 (.putfield 78) 3 := dop_181 (dn_w dw117_16 4 rfl) rfl
theorem dX9_init_263 : DE cX9_init 263 (.aload_n 0) 1 := dop_42 (dn_w dw117_16 7 rfl)
theorem dX9_init_264 : DE cX9_init 264 (.sipush 190) 3 := dop_17 (dn_w dw117_16 8 rfl) rfl
theorem dX9_init_267 : decode cX9_init 267 = .ok (.newarray .int, 2) := by decide +kernel
theorem dX9_init_269 : DE cX9_init 269 (.putfield 81) 3 := dop_181 (dn_w dw117_16 13 rfl) rfl
theorem dX9_init_272 : DE cX9_init 272 (.aload_n 0) 1 := dop_42 (dn_w dw117_17 0 rfl)
theorem dX9_init_273 : DE cX9_init 273 (.iconst 2) 1 := dop_5 (dn_w dw117_17 1 rfl)
theorem dX9_init_274 : decode cX9_init 274 = .ok (.newarray .int, 2) := by decide +kernel
theorem dX9_init_276 : DE cX9_init 276 (.putfield 84) 3 := dop_181 (dn_w dw117_17 4 rfl) rfl
theorem dX9_init_279 : DE cX9_init 279 (.return_) 1 := dop_177 (dn_w dw117_17 7 rfl)
noncomputable def dt118_0 : List Nat := 26 :: 27 :: 161 :: 0 :: 12 :: 26 :: 28 :: 163 :: 0 :: 7 :: 4 :: 167 :: 0 :: 4 :: 3 :: 172 :: []
theorem dw118_0 : dn cX9_in 0 = dt118_0 := by decide +kernel
theorem dX9_in_0 : DE cX9_in 0 (.iload_n 0) 1 := dop_26 (dn_w dw118_0 0 rfl)
theorem dX9_in_1 : DE cX9_in 1 (.iload_n 1) 1 := dop_27 (dn_w dw118_0 1 rfl)
theorem dX9_in_2 : DE cX9_in 2 (.if_icmp .lt 12) 3 := dop_161 (dn_w dw118_0 2 rfl) rfl
theorem dX9_in_5 : DE cX9_in 5 (.iload_n 0) 1 := dop_26 (dn_w dw118_0 5 rfl)
theorem dX9_in_6 : DE cX9_in 6 (.iload_n 2) 1 := dop_28 (dn_w dw118_0 6 rfl)
theorem dX9_in_7 : DE cX9_in 7 (.if_icmp .gt 7) 3 := dop_163 (dn_w dw118_0 7 rfl) rfl
theorem dX9_in_10 : DE cX9_in 10 (.iconst 1) 1 := dop_4 (dn_w dw118_0 10 rfl)
theorem dX9_in_11 : DE cX9_in 11 (.goto 4) 3 := dop_167 (dn_w dw118_0 11 rfl) rfl
theorem dX9_in_14 : DE cX9_in 14 (.iconst 0) 1 := dop_3 (dn_w dw118_0 14 rfl)
theorem dX9_in_15 : DE cX9_in 15 (.ireturn) 1 := dop_172 (dn_w dw118_0 15 rfl)
noncomputable def dt119_0 : List Nat := 26 :: 3 :: 16 :: 39 :: 184 :: 0 :: 87 :: 172 :: []
theorem dw119_0 : dn cX9_isDay 0 = dt119_0 := by decide +kernel
theorem dX9_isDay_0 : DE cX9_isDay 0 (.iload_n 0) 1 := dop_26 (dn_w dw119_0 0 rfl)
theorem dX9_isDay_1 : DE cX9_isDay 1 (.iconst 0) 1 := dop_3 (dn_w dw119_0 1 rfl)
theorem dX9_isDay_2 : DE cX9_isDay 2 (.bipush 39) 2 := dop_16 (dn_w dw119_0 2 rfl) rfl
theorem dX9_isDay_4 : DE cX9_isDay 4 (.invokestatic 87) 3 := dop_184 (dn_w dw119_0 4 rfl) rfl
theorem dX9_isDay_7 : DE cX9_isDay 7 (.ireturn) 1 := dop_172 (dn_w dw119_0 7 rfl)
noncomputable def dt120_0 : List Nat := 27 :: 3 :: 42 :: 180 :: 0 :: 91 :: 4 :: 100 :: 184 :: 0 :: 87 :: 172 :: []
theorem dw120_0 : dn cX9_isChild 0 = dt120_0 := by decide +kernel
theorem dX9_isChild_0 : DE cX9_isChild 0 (.iload_n 1) 1 := dop_27 (dn_w dw120_0 0 rfl)
theorem dX9_isChild_1 : DE cX9_isChild 1 (.iconst 0) 1 := dop_3 (dn_w dw120_0 1 rfl)
theorem dX9_isChild_2 : DE cX9_isChild 2 (.aload_n 0) 1 := dop_42 (dn_w dw120_0 2 rfl)
theorem dX9_isChild_3 : DE cX9_isChild 3 (.getfield 91) 3 := dop_180 (dn_w dw120_0 3 rfl) rfl
theorem dX9_isChild_6 : DE cX9_isChild 6 (.iconst 1) 1 := dop_4 (dn_w dw120_0 6 rfl)
theorem dX9_isChild_7 : DE cX9_isChild 7 (.isub) 1 := dop_100 (dn_w dw120_0 7 rfl)
theorem dX9_isChild_8 : DE cX9_isChild 8 (.invokestatic 87) 3 := dop_184 (dn_w dw120_0 8 rfl) rfl
theorem dX9_isChild_11 : DE cX9_isChild 11 (.ireturn) 1 := dop_172 (dn_w dw120_0 11 rfl)
noncomputable def dt121_0 : List Nat := 42 :: 180 :: 0 :: 7 :: 7 :: 27 :: 104 :: 28 :: 96 :: 46 :: 172 :: []
theorem dw121_0 : dn cX9_its 0 = dt121_0 := by decide +kernel
theorem dX9_its_0 : DE cX9_its 0 (.aload_n 0) 1 := dop_42 (dn_w dw121_0 0 rfl)
theorem dX9_its_1 : DE cX9_its 1 (.getfield 7) 3 := dop_180 (dn_w dw121_0 1 rfl) rfl
theorem dX9_its_4 : DE cX9_its 4 (.iconst 4) 1 := dop_7 (dn_w dw121_0 4 rfl)
theorem dX9_its_5 : DE cX9_its 5 (.iload_n 1) 1 := dop_27 (dn_w dw121_0 5 rfl)
theorem dX9_its_6 : DE cX9_its 6 (.imul) 1 := dop_104 (dn_w dw121_0 6 rfl)
theorem dX9_its_7 : DE cX9_its 7 (.iload_n 2) 1 := dop_28 (dn_w dw121_0 7 rfl)
theorem dX9_its_8 : DE cX9_its 8 (.iadd) 1 := dop_96 (dn_w dw121_0 8 rfl)
theorem dX9_its_9 : DE cX9_its 9 (.iaload) 1 := dop_46 (dn_w dw121_0 9 rfl)
theorem dX9_its_10 : DE cX9_its 10 (.ireturn) 1 := dop_172 (dn_w dw121_0 10 rfl)
noncomputable def dt122_1 : List Nat := 153 :: 0 :: 7 :: 4 :: 167 :: 0 :: 4 :: 3 :: 172 :: []
noncomputable def dt122_0 : List Nat := 26 :: 3 :: 8 :: 184 :: 0 :: 87 :: 153 :: 0 :: 17 :: 27 :: 3 :: 16 :: 9 :: 184 :: 0 :: 87 :: dt122_1
theorem dw122_0 : dn cX9_isLike 0 = dt122_0 := by decide +kernel
theorem dw122_1 : dn cX9_isLike 16 = dt122_1 := dn_w dw122_0 16 rfl
theorem dX9_isLike_0 : DE cX9_isLike 0 (.iload_n 0) 1 := dop_26 (dn_w dw122_0 0 rfl)
theorem dX9_isLike_1 : DE cX9_isLike 1 (.iconst 0) 1 := dop_3 (dn_w dw122_0 1 rfl)
theorem dX9_isLike_2 : DE cX9_isLike 2 (.iconst 5) 1 := dop_8 (dn_w dw122_0 2 rfl)
theorem dX9_isLike_3 : DE cX9_isLike 3 (.invokestatic 87) 3 := dop_184 (dn_w dw122_0 3 rfl) rfl
theorem dX9_isLike_6 : DE cX9_isLike 6 (.ifCond .eq 17) 3 := dop_153 (dn_w dw122_0 6 rfl) rfl
theorem dX9_isLike_9 : DE cX9_isLike 9 (.iload_n 1) 1 := dop_27 (dn_w dw122_0 9 rfl)
theorem dX9_isLike_10 : DE cX9_isLike 10 (.iconst 0) 1 := dop_3 (dn_w dw122_0 10 rfl)
theorem dX9_isLike_11 : DE cX9_isLike 11 (.bipush 9) 2 := dop_16 (dn_w dw122_0 11 rfl) rfl
theorem dX9_isLike_13 : DE cX9_isLike 13 (.invokestatic 87) 3 := dop_184 (dn_w dw122_0 13 rfl) rfl
theorem dX9_isLike_16 : DE cX9_isLike 16 (.ifCond .eq 7) 3 := dop_153 (dn_w dw122_1 0 rfl) rfl
theorem dX9_isLike_19 : DE cX9_isLike 19 (.iconst 1) 1 := dop_4 (dn_w dw122_1 3 rfl)
theorem dX9_isLike_20 : DE cX9_isLike 20 (.goto 4) 3 := dop_167 (dn_w dw122_1 4 rfl) rfl
theorem dX9_isLike_23 : DE cX9_isLike 23 (.iconst 0) 1 := dop_3 (dn_w dw122_1 7 rfl)
theorem dX9_isLike_24 : DE cX9_isLike 24 (.ireturn) 1 := dop_172 (dn_w dw122_1 8 rfl)
noncomputable def dt123_4 : List Nat := 181 :: 0 :: 94 :: 132 :: 4 :: 1 :: 167 :: 255 :: 216 :: 42 :: 180 :: 0 :: 94 :: 172 :: []
noncomputable def dt123_3 : List Nat := 4 :: 104 :: 123 :: 20 :: 0 :: 97 :: 127 :: 136 :: 79 :: 42 :: 89 :: 180 :: 0 :: 94 :: 4 :: 96 :: dt123_4
noncomputable def dt123_2 : List Nat := 29 :: 162 :: 0 :: 40 :: 42 :: 180 :: 0 :: 38 :: 42 :: 180 :: 0 :: 94 :: 31 :: 16 :: 8 :: 21 :: dt123_3
noncomputable def dt123_1 : List Nat := 29 :: 96 :: 17 :: 0 :: 240 :: 164 :: 0 :: 6 :: 16 :: 254 :: 172 :: 3 :: 54 :: 4 :: 21 :: 4 :: dt123_2
noncomputable def dt123_0 : List Nat := 29 :: 4 :: 16 :: 8 :: 184 :: 0 :: 87 :: 154 :: 0 :: 5 :: 2 :: 172 :: 42 :: 180 :: 0 :: 94 :: dt123_1
theorem dw123_0 : dn cX9_feed 0 = dt123_0 := by decide +kernel
theorem dw123_1 : dn cX9_feed 16 = dt123_1 := dn_w dw123_0 16 rfl
theorem dw123_2 : dn cX9_feed 32 = dt123_2 := dn_w dw123_1 16 rfl
theorem dw123_3 : dn cX9_feed 48 = dt123_3 := dn_w dw123_2 16 rfl
theorem dw123_4 : dn cX9_feed 64 = dt123_4 := dn_w dw123_3 16 rfl
theorem dX9_feed_0 : DE cX9_feed 0 (.iload_n 3) 1 := dop_29 (dn_w dw123_0 0 rfl)
theorem dX9_feed_1 : DE cX9_feed 1 (.iconst 1) 1 := dop_4 (dn_w dw123_0 1 rfl)
theorem dX9_feed_2 : DE cX9_feed 2 (.bipush 8) 2 := dop_16 (dn_w dw123_0 2 rfl) rfl
theorem dX9_feed_4 : DE cX9_feed 4 (.invokestatic 87) 3 := dop_184 (dn_w dw123_0 4 rfl) rfl
theorem dX9_feed_7 : DE cX9_feed 7 (.ifCond .ne 5) 3 := dop_154 (dn_w dw123_0 7 rfl) rfl
theorem dX9_feed_10 : DE cX9_feed 10 (.iconst (-1)) 1 := dop_2 (dn_w dw123_0 10 rfl)
theorem dX9_feed_11 : DE cX9_feed 11 (.ireturn) 1 := dop_172 (dn_w dw123_0 11 rfl)
theorem dX9_feed_12 : DE cX9_feed 12 (.aload_n 0) 1 := dop_42 (dn_w dw123_0 12 rfl)
theorem dX9_feed_13 : DE cX9_feed 13 (.getfield 94) 3 := dop_180 (dn_w dw123_0 13 rfl) rfl
theorem dX9_feed_16 : DE cX9_feed 16 (.iload_n 3) 1 := dop_29 (dn_w dw123_1 0 rfl)
theorem dX9_feed_17 : DE cX9_feed 17 (.iadd) 1 := dop_96 (dn_w dw123_1 1 rfl)
theorem dX9_feed_18 : DE cX9_feed 18 (.sipush 240) 3 := dop_17 (dn_w dw123_1 2 rfl) rfl
theorem dX9_feed_21 : DE cX9_feed 21 (.if_icmp .le 6) 3 := dop_164 (dn_w dw123_1 5 rfl) rfl
theorem dX9_feed_24 : DE cX9_feed 24 (.bipush (-2)) 2 := dop_16 (dn_w dw123_1 8 rfl) rfl
theorem dX9_feed_26 : DE cX9_feed 26 (.ireturn) 1 := dop_172 (dn_w dw123_1 10 rfl)
theorem dX9_feed_27 : DE cX9_feed 27 (.iconst 0) 1 := dop_3 (dn_w dw123_1 11 rfl)
theorem dX9_feed_28 : DE cX9_feed 28 (.istore 4) 2 := dop_54 (dn_w dw123_1 12 rfl)
theorem dX9_feed_30 : DE cX9_feed 30 (.iload 4) 2 := dop_21 (dn_w dw123_1 14 rfl)
theorem dX9_feed_32 : DE cX9_feed 32 (.iload_n 3) 1 := dop_29 (dn_w dw123_2 0 rfl)
theorem dX9_feed_33 : DE cX9_feed 33 (.if_icmp .ge 40) 3 := dop_162 (dn_w dw123_2 1 rfl) rfl
theorem dX9_feed_36 : DE cX9_feed 36 (.aload_n 0) 1 := dop_42 (dn_w dw123_2 4 rfl)
theorem dX9_feed_37 : DE cX9_feed 37 (.getfield 38) 3 := dop_180 (dn_w dw123_2 5 rfl) rfl
theorem dX9_feed_40 : DE cX9_feed 40 (.aload_n 0) 1 := dop_42 (dn_w dw123_2 8 rfl)
theorem dX9_feed_41 : DE cX9_feed 41 (.getfield 94) 3 := dop_180 (dn_w dw123_2 9 rfl) rfl
theorem dX9_feed_44 : DE cX9_feed 44 (.lload_n 1) 1 := dop_31 (dn_w dw123_2 12 rfl)
theorem dX9_feed_45 : DE cX9_feed 45 (.bipush 8) 2 := dop_16 (dn_w dw123_2 13 rfl) rfl
theorem dX9_feed_47 : DE cX9_feed 47 (.iload 4) 2 := dop_21 (dn_w dw123_2 15 rfl)
theorem dX9_feed_49 : DE cX9_feed 49 (.imul) 1 := dop_104 (dn_w dw123_3 1 rfl)
theorem dX9_feed_50 : DE cX9_feed 50 (.lshr) 1 := dop_123 (dn_w dw123_3 2 rfl)
theorem dX9_feed_51 : DE cX9_feed 51 (.ldc2_w 97) 3 := dop_20 (dn_w dw123_3 3 rfl) rfl
theorem dX9_feed_54 : DE cX9_feed 54 (.land) 1 := dop_127 (dn_w dw123_3 6 rfl)
theorem dX9_feed_55 : DE cX9_feed 55 (.l2i) 1 := dop_136 (dn_w dw123_3 7 rfl)
theorem dX9_feed_56 : DE cX9_feed 56 (.iastore) 1 := dop_79 (dn_w dw123_3 8 rfl)
theorem dX9_feed_57 : DE cX9_feed 57 (.aload_n 0) 1 := dop_42 (dn_w dw123_3 9 rfl)
theorem dX9_feed_58 : DE cX9_feed 58 (.dup) 1 := dop_89 (dn_w dw123_3 10 rfl)
theorem dX9_feed_59 : DE cX9_feed 59 (.getfield 94) 3 := dop_180 (dn_w dw123_3 11 rfl) rfl
theorem dX9_feed_62 : DE cX9_feed 62 (.iconst 1) 1 := dop_4 (dn_w dw123_3 14 rfl)
theorem dX9_feed_63 : DE cX9_feed 63 (.iadd) 1 := dop_96 (dn_w dw123_3 15 rfl)
theorem dX9_feed_64 : DE cX9_feed 64 (.putfield 94) 3 := dop_181 (dn_w dw123_4 0 rfl) rfl
theorem dX9_feed_67 : DE cX9_feed 67 (.iinc 4 1) 3 := dop_132 (dn_w dw123_4 3 rfl) rfl
theorem dX9_feed_70 : DE cX9_feed 70 (.goto (-40)) 3 := dop_167 (dn_w dw123_4 6 rfl) rfl
theorem dX9_feed_73 : DE cX9_feed 73 (.aload_n 0) 1 := dop_42 (dn_w dw123_4 9 rfl)
theorem dX9_feed_74 : DE cX9_feed 74 (.getfield 94) 3 := dop_180 (dn_w dw123_4 10 rfl) rfl
theorem dX9_feed_77 : DE cX9_feed 77 (.ireturn) 1 := dop_172 (dn_w dw123_4 13 rfl)
noncomputable def dt124_1 : List Nat := 4 :: 2 :: 172 :: []
noncomputable def dt124_0 : List Nat := 27 :: 42 :: 180 :: 0 :: 94 :: 162 :: 0 :: 12 :: 42 :: 180 :: 0 :: 38 :: 27 :: 46 :: 167 :: 0 :: dt124_1
theorem dw124_0 : dn cX9_byteAt 0 = dt124_0 := by decide +kernel
theorem dw124_1 : dn cX9_byteAt 16 = dt124_1 := dn_w dw124_0 16 rfl
theorem dX9_byteAt_0 : DE cX9_byteAt 0 (.iload_n 1) 1 := dop_27 (dn_w dw124_0 0 rfl)
theorem dX9_byteAt_1 : DE cX9_byteAt 1 (.aload_n 0) 1 := dop_42 (dn_w dw124_0 1 rfl)
theorem dX9_byteAt_2 : DE cX9_byteAt 2 (.getfield 94) 3 := dop_180 (dn_w dw124_0 2 rfl) rfl
theorem dX9_byteAt_5 : DE cX9_byteAt 5 (.if_icmp .ge 12) 3 := dop_162 (dn_w dw124_0 5 rfl) rfl
theorem dX9_byteAt_8 : DE cX9_byteAt 8 (.aload_n 0) 1 := dop_42 (dn_w dw124_0 8 rfl)
theorem dX9_byteAt_9 : DE cX9_byteAt 9 (.getfield 38) 3 := dop_180 (dn_w dw124_0 9 rfl) rfl
theorem dX9_byteAt_12 : DE cX9_byteAt 12 (.iload_n 1) 1 := dop_27 (dn_w dw124_0 12 rfl)
theorem dX9_byteAt_13 : DE cX9_byteAt 13 (.iaload) 1 := dop_46 (dn_w dw124_0 13 rfl)
theorem dX9_byteAt_14 : DE cX9_byteAt 14 (.goto 4) 3 := dop_167 (dn_w dw124_0 14 rfl) rfl
theorem dX9_byteAt_17 : DE cX9_byteAt 17 (.iconst (-1)) 1 := dop_2 (dn_w dw124_1 1 rfl)
theorem dX9_byteAt_18 : DE cX9_byteAt 18 (.ireturn) 1 := dop_172 (dn_w dw124_1 2 rfl)
noncomputable def dt125_0 : List Nat := 26 :: 16 :: 97 :: 16 :: 122 :: 184 :: 0 :: 87 :: 172 :: []
theorem dw125_0 : dn cX9_isLetter 0 = dt125_0 := by decide +kernel
theorem dX9_isLetter_0 : DE cX9_isLetter 0 (.iload_n 0) 1 := dop_26 (dn_w dw125_0 0 rfl)
theorem dX9_isLetter_1 : DE cX9_isLetter 1 (.bipush 97) 2 := dop_16 (dn_w dw125_0 1 rfl) rfl
theorem dX9_isLetter_3 : DE cX9_isLetter 3 (.bipush 122) 2 := dop_16 (dn_w dw125_0 3 rfl) rfl
theorem dX9_isLetter_5 : DE cX9_isLetter 5 (.invokestatic 87) 3 := dop_184 (dn_w dw125_0 5 rfl) rfl
theorem dX9_isLetter_8 : DE cX9_isLetter 8 (.ireturn) 1 := dop_172 (dn_w dw125_0 8 rfl)
noncomputable def dt126_0 : List Nat := 26 :: 16 :: 48 :: 16 :: 57 :: 184 :: 0 :: 87 :: 172 :: []
theorem dw126_0 : dn cX9_isDigit 0 = dt126_0 := by decide +kernel
theorem dX9_isDigit_0 : DE cX9_isDigit 0 (.iload_n 0) 1 := dop_26 (dn_w dw126_0 0 rfl)
theorem dX9_isDigit_1 : DE cX9_isDigit 1 (.bipush 48) 2 := dop_16 (dn_w dw126_0 1 rfl) rfl
theorem dX9_isDigit_3 : DE cX9_isDigit 3 (.bipush 57) 2 := dop_16 (dn_w dw126_0 3 rfl) rfl
theorem dX9_isDigit_5 : DE cX9_isDigit 5 (.invokestatic 87) 3 := dop_184 (dn_w dw126_0 5 rfl) rfl
theorem dX9_isDigit_8 : DE cX9_isDigit 8 (.ireturn) 1 := dop_172 (dn_w dw126_0 8 rfl)
noncomputable def dt127_17 : List Nat := 0 :: 99 :: 4 :: 96 :: 181 :: 0 :: 99 :: 167 :: 255 :: 184 :: 177 :: []
noncomputable def dt127_16 : List Nat := 0 :: 105 :: 96 :: 16 :: 48 :: 100 :: 167 :: 0 :: 4 :: 2 :: 181 :: 0 :: 123 :: 42 :: 89 :: 180 :: dt127_17
noncomputable def dt127_15 : List Nat := 162 :: 0 :: 25 :: 16 :: 10 :: 42 :: 180 :: 0 :: 123 :: 104 :: 42 :: 42 :: 180 :: 0 :: 99 :: 182 :: dt127_16
noncomputable def dt127_14 : List Nat := 0 :: 113 :: 153 :: 0 :: 56 :: 42 :: 42 :: 180 :: 0 :: 99 :: 42 :: 180 :: 0 :: 102 :: 100 :: 5 :: dt127_15
noncomputable def dt127_13 : List Nat := 180 :: 0 :: 116 :: 5 :: 160 :: 0 :: 70 :: 42 :: 42 :: 180 :: 0 :: 99 :: 182 :: 0 :: 105 :: 184 :: dt127_14
noncomputable def dt127_12 : List Nat := 0 :: 119 :: 42 :: 89 :: 180 :: 0 :: 99 :: 4 :: 96 :: 181 :: 0 :: 99 :: 167 :: 255 :: 178 :: 42 :: dt127_13
noncomputable def dt127_11 : List Nat := 182 :: 0 :: 105 :: 133 :: 97 :: 20 :: 0 :: 128 :: 101 :: 167 :: 0 :: 6 :: 20 :: 0 :: 130 :: 181 :: dt127_12
noncomputable def dt127_10 : List Nat := 162 :: 0 :: 28 :: 20 :: 0 :: 126 :: 42 :: 180 :: 0 :: 119 :: 105 :: 42 :: 42 :: 180 :: 0 :: 99 :: dt127_11
noncomputable def dt127_9 : List Nat := 109 :: 153 :: 0 :: 62 :: 42 :: 42 :: 180 :: 0 :: 99 :: 42 :: 180 :: 0 :: 102 :: 100 :: 16 :: 8 :: dt127_10
noncomputable def dt127_8 : List Nat := 0 :: 116 :: 4 :: 160 :: 0 :: 76 :: 42 :: 42 :: 180 :: 0 :: 99 :: 182 :: 0 :: 105 :: 184 :: 0 :: dt127_9
noncomputable def dt127_7 : List Nat := 6 :: 160 :: 0 :: 13 :: 42 :: 89 :: 180 :: 0 :: 99 :: 4 :: 96 :: 181 :: 0 :: 99 :: 42 :: 180 :: dt127_8
noncomputable def dt127_6 : List Nat := 5 :: 160 :: 0 :: 7 :: 3 :: 167 :: 0 :: 4 :: 27 :: 181 :: 0 :: 123 :: 42 :: 180 :: 0 :: 116 :: dt127_7
noncomputable def dt127_5 : List Nat := 0 :: 4 :: 6 :: 181 :: 0 :: 116 :: 42 :: 9 :: 181 :: 0 :: 119 :: 42 :: 42 :: 180 :: 0 :: 116 :: dt127_6
noncomputable def dt127_4 : List Nat := 153 :: 0 :: 7 :: 4 :: 167 :: 0 :: 15 :: 27 :: 184 :: 0 :: 113 :: 153 :: 0 :: 7 :: 5 :: 167 :: dt127_5
noncomputable def dt127_3 : List Nat := 0 :: 105 :: 60 :: 42 :: 27 :: 156 :: 0 :: 7 :: 3 :: 167 :: 0 :: 26 :: 27 :: 184 :: 0 :: 109 :: dt127_4
noncomputable def dt127_2 : List Nat := 255 :: 233 :: 42 :: 42 :: 180 :: 0 :: 102 :: 181 :: 0 :: 99 :: 42 :: 42 :: 180 :: 0 :: 102 :: 182 :: dt127_3
noncomputable def dt127_1 : List Nat := 16 :: 32 :: 160 :: 0 :: 16 :: 42 :: 89 :: 180 :: 0 :: 102 :: 4 :: 96 :: 181 :: 0 :: 102 :: 167 :: dt127_2
noncomputable def dt127_0 : List Nat := 42 :: 42 :: 180 :: 0 :: 99 :: 181 :: 0 :: 102 :: 42 :: 42 :: 180 :: 0 :: 102 :: 182 :: 0 :: 105 :: dt127_1
theorem dw127_0 : dn cX9_advance 0 = dt127_0 := by decide +kernel
theorem dw127_1 : dn cX9_advance 16 = dt127_1 := dn_w dw127_0 16 rfl
theorem dw127_2 : dn cX9_advance 32 = dt127_2 := dn_w dw127_1 16 rfl
theorem dw127_3 : dn cX9_advance 48 = dt127_3 := dn_w dw127_2 16 rfl
theorem dw127_4 : dn cX9_advance 64 = dt127_4 := dn_w dw127_3 16 rfl
theorem dw127_5 : dn cX9_advance 80 = dt127_5 := dn_w dw127_4 16 rfl
theorem dw127_6 : dn cX9_advance 96 = dt127_6 := dn_w dw127_5 16 rfl
theorem dw127_7 : dn cX9_advance 112 = dt127_7 := dn_w dw127_6 16 rfl
theorem dw127_8 : dn cX9_advance 128 = dt127_8 := dn_w dw127_7 16 rfl
theorem dw127_9 : dn cX9_advance 144 = dt127_9 := dn_w dw127_8 16 rfl
theorem dw127_10 : dn cX9_advance 160 = dt127_10 := dn_w dw127_9 16 rfl
theorem dw127_11 : dn cX9_advance 176 = dt127_11 := dn_w dw127_10 16 rfl
theorem dw127_12 : dn cX9_advance 192 = dt127_12 := dn_w dw127_11 16 rfl
theorem dw127_13 : dn cX9_advance 208 = dt127_13 := dn_w dw127_12 16 rfl
theorem dw127_14 : dn cX9_advance 224 = dt127_14 := dn_w dw127_13 16 rfl
theorem dw127_15 : dn cX9_advance 240 = dt127_15 := dn_w dw127_14 16 rfl
theorem dw127_16 : dn cX9_advance 256 = dt127_16 := dn_w dw127_15 16 rfl
theorem dw127_17 : dn cX9_advance 272 = dt127_17 := dn_w dw127_16 16 rfl
theorem dX9_advance_0 : DE cX9_advance 0 (.aload_n 0) 1 := dop_42 (dn_w dw127_0 0 rfl)
theorem dX9_advance_1 : DE cX9_advance 1 (.aload_n 0) 1 := dop_42 (dn_w dw127_0 1 rfl)
theorem dX9_advance_2 : DE cX9_advance 2 (.getfield 99) 3 := dop_180 (dn_w dw127_0 2 rfl) rfl
theorem dX9_advance_5 : DE cX9_advance 5 (.putfield 102) 3 := dop_181 (dn_w dw127_0 5 rfl) rfl
theorem dX9_advance_8 : DE cX9_advance 8 (.aload_n 0) 1 := dop_42 (dn_w dw127_0 8 rfl)
theorem dX9_advance_9 : DE cX9_advance 9 (.aload_n 0) 1 := dop_42 (dn_w dw127_0 9 rfl)
theorem dX9_advance_10 : DE cX9_advance 10 (.getfield 102) 3 := dop_180 (dn_w dw127_0 10 rfl) rfl
theorem dX9_advance_13 : DE cX9_advance 13 (.invokevirtual 105) 3 := dop_182 (dn_w dw127_0 13 rfl) rfl
theorem dX9_advance_16 : DE cX9_advance 16 (.bipush 32) 2 := dop_16 (dn_w dw127_1 0 rfl) rfl
theorem dX9_advance_18 : DE cX9_advance 18 (.if_icmp .ne 16) 3 := dop_160 (dn_w dw127_1 2 rfl) rfl
theorem dX9_advance_21 : DE cX9_advance 21 (.aload_n 0) 1 := dop_42 (dn_w dw127_1 5 rfl)
theorem dX9_advance_22 : DE cX9_advance 22 (.dup) 1 := dop_89 (dn_w dw127_1 6 rfl)
theorem dX9_advance_23 : DE cX9_advance 23 (.getfield 102) 3 := dop_180 (dn_w dw127_1 7 rfl) rfl
theorem dX9_advance_26 : DE cX9_advance 26 (.iconst 1) 1 := dop_4 (dn_w dw127_1 10 rfl)
theorem dX9_advance_27 : DE cX9_advance 27 (.iadd) 1 := dop_96 (dn_w dw127_1 11 rfl)
theorem dX9_advance_28 : DE cX9_advance 28 (.putfield 102) 3 := dop_181 (dn_w dw127_1 12 rfl) rfl
theorem dX9_advance_31 : DE cX9_advance 31 (.goto (-23)) 3 := dop_167 (dn_w dw127_1 15 rfl) rfl
theorem dX9_advance_34 : DE cX9_advance 34 (.aload_n 0) 1 := dop_42 (dn_w dw127_2 2 rfl)
theorem dX9_advance_35 : DE cX9_advance 35 (.aload_n 0) 1 := dop_42 (dn_w dw127_2 3 rfl)
theorem dX9_advance_36 : DE cX9_advance 36 (.getfield 102) 3 := dop_180 (dn_w dw127_2 4 rfl) rfl
theorem dX9_advance_39 : DE cX9_advance 39 (.putfield 99) 3 := dop_181 (dn_w dw127_2 7 rfl) rfl
theorem dX9_advance_42 : DE cX9_advance 42 (.aload_n 0) 1 := dop_42 (dn_w dw127_2 10 rfl)
theorem dX9_advance_43 : DE cX9_advance 43 (.aload_n 0) 1 := dop_42 (dn_w dw127_2 11 rfl)
theorem dX9_advance_44 : DE cX9_advance 44 (.getfield 102) 3 := dop_180 (dn_w dw127_2 12 rfl) rfl
theorem dX9_advance_47 : DE cX9_advance 47 (.invokevirtual 105) 3 := dop_182 (dn_w dw127_2 15 rfl) rfl
theorem dX9_advance_50 : DE cX9_advance 50 (.istore_n 1) 1 := dop_60 (dn_w dw127_3 2 rfl)
theorem dX9_advance_51 : DE cX9_advance 51 (.aload_n 0) 1 := dop_42 (dn_w dw127_3 3 rfl)
theorem dX9_advance_52 : DE cX9_advance 52 (.iload_n 1) 1 := dop_27 (dn_w dw127_3 4 rfl)
theorem dX9_advance_53 : DE cX9_advance 53 (.ifCond .ge 7) 3 := dop_156 (dn_w dw127_3 5 rfl) rfl
theorem dX9_advance_56 : DE cX9_advance 56 (.iconst 0) 1 := dop_3 (dn_w dw127_3 8 rfl)
theorem dX9_advance_57 : DE cX9_advance 57 (.goto 26) 3 := dop_167 (dn_w dw127_3 9 rfl) rfl
theorem dX9_advance_60 : DE cX9_advance 60 (.iload_n 1) 1 := dop_27 (dn_w dw127_3 12 rfl)
theorem dX9_advance_61 : DE cX9_advance 61 (.invokestatic 109) 3 := dop_184 (dn_w dw127_3 13 rfl) rfl
theorem dX9_advance_64 : DE cX9_advance 64 (.ifCond .eq 7) 3 := dop_153 (dn_w dw127_4 0 rfl) rfl
theorem dX9_advance_67 : DE cX9_advance 67 (.iconst 1) 1 := dop_4 (dn_w dw127_4 3 rfl)
theorem dX9_advance_68 : DE cX9_advance 68 (.goto 15) 3 := dop_167 (dn_w dw127_4 4 rfl) rfl
theorem dX9_advance_71 : DE cX9_advance 71 (.iload_n 1) 1 := dop_27 (dn_w dw127_4 7 rfl)
theorem dX9_advance_72 : DE cX9_advance 72 (.invokestatic 113) 3 := dop_184 (dn_w dw127_4 8 rfl) rfl
theorem dX9_advance_75 : DE cX9_advance 75 (.ifCond .eq 7) 3 := dop_153 (dn_w dw127_4 11 rfl) rfl
theorem dX9_advance_78 : DE cX9_advance 78 (.iconst 2) 1 := dop_5 (dn_w dw127_4 14 rfl)
theorem dX9_advance_79 : DE cX9_advance 79 (.goto 4) 3 := dop_167 (dn_w dw127_4 15 rfl) rfl
theorem dX9_advance_82 : DE cX9_advance 82 (.iconst 3) 1 := dop_6 (dn_w dw127_5 2 rfl)
theorem dX9_advance_83 : DE cX9_advance 83 (.putfield 116) 3 := dop_181 (dn_w dw127_5 3 rfl) rfl
theorem dX9_advance_86 : DE cX9_advance 86 (.aload_n 0) 1 := dop_42 (dn_w dw127_5 6 rfl)
theorem dX9_advance_87 : DE cX9_advance 87 (.lconst 0) 1 := dop_9 (dn_w dw127_5 7 rfl)
theorem dX9_advance_88 : DE cX9_advance 88 (.putfield 119) 3 := dop_181 (dn_w dw127_5 8 rfl) rfl
theorem dX9_advance_91 : DE cX9_advance 91 (.aload_n 0) 1 := dop_42 (dn_w dw127_5 11 rfl)
theorem dX9_advance_92 : DE cX9_advance 92 (.aload_n 0) 1 := dop_42 (dn_w dw127_5 12 rfl)
theorem dX9_advance_93 : DE cX9_advance 93 (.getfield 116) 3 := dop_180 (dn_w dw127_5 13 rfl) rfl
theorem dX9_advance_96 : DE cX9_advance 96 (.iconst 2) 1 := dop_5 (dn_w dw127_6 0 rfl)
theorem dX9_advance_97 : DE cX9_advance 97 (.if_icmp .ne 7) 3 := dop_160 (dn_w dw127_6 1 rfl) rfl
theorem dX9_advance_100 : DE cX9_advance 100 (.iconst 0) 1 := dop_3 (dn_w dw127_6 4 rfl)
theorem dX9_advance_101 : DE cX9_advance 101 (.goto 4) 3 := dop_167 (dn_w dw127_6 5 rfl) rfl
theorem dX9_advance_104 : DE cX9_advance 104 (.iload_n 1) 1 := dop_27 (dn_w dw127_6 8 rfl)
theorem dX9_advance_105 : DE cX9_advance 105 (.putfield 123) 3 := dop_181 (dn_w dw127_6 9 rfl) rfl
theorem dX9_advance_108 : DE cX9_advance 108 (.aload_n 0) 1 := dop_42 (dn_w dw127_6 12 rfl)
theorem dX9_advance_109 : DE cX9_advance 109 (.getfield 116) 3 := dop_180 (dn_w dw127_6 13 rfl) rfl
theorem dX9_advance_112 : DE cX9_advance 112 (.iconst 3) 1 := dop_6 (dn_w dw127_7 0 rfl)
theorem dX9_advance_113 : DE cX9_advance 113 (.if_icmp .ne 13) 3 := dop_160 (dn_w dw127_7 1 rfl) rfl
theorem dX9_advance_116 : DE cX9_advance 116 (.aload_n 0) 1 := dop_42 (dn_w dw127_7 4 rfl)
theorem dX9_advance_117 : DE cX9_advance 117 (.dup) 1 := dop_89 (dn_w dw127_7 5 rfl)
theorem dX9_advance_118 : DE cX9_advance 118 (.getfield 99) 3 := dop_180 (dn_w dw127_7 6 rfl) rfl
theorem dX9_advance_121 : DE cX9_advance 121 (.iconst 1) 1 := dop_4 (dn_w dw127_7 9 rfl)
theorem dX9_advance_122 : DE cX9_advance 122 (.iadd) 1 := dop_96 (dn_w dw127_7 10 rfl)
theorem dX9_advance_123 : DE cX9_advance 123 (.putfield 99) 3 := dop_181 (dn_w dw127_7 11 rfl) rfl
theorem dX9_advance_126 : DE cX9_advance 126 (.aload_n 0) 1 := dop_42 (dn_w dw127_7 14 rfl)
theorem dX9_advance_127 : DE cX9_advance 127 (.getfield 116) 3 := dop_180 (dn_w dw127_7 15 rfl) rfl
theorem dX9_advance_130 : DE cX9_advance 130 (.iconst 1) 1 := dop_4 (dn_w dw127_8 2 rfl)
theorem dX9_advance_131 : DE cX9_advance 131 (.if_icmp .ne 76) 3 := dop_160 (dn_w dw127_8 3 rfl) rfl
theorem dX9_advance_134 : DE cX9_advance 134 (.aload_n 0) 1 := dop_42 (dn_w dw127_8 6 rfl)
theorem dX9_advance_135 : DE cX9_advance 135 (.aload_n 0) 1 := dop_42 (dn_w dw127_8 7 rfl)
theorem dX9_advance_136 : DE cX9_advance 136 (.getfield 99) 3 := dop_180 (dn_w dw127_8 8 rfl) rfl
theorem dX9_advance_139 : DE cX9_advance 139 (.invokevirtual 105) 3 := dop_182 (dn_w dw127_8 11 rfl) rfl
theorem dX9_advance_142 : DE cX9_advance 142 (.invokestatic 109) 3 := dop_184 (dn_w dw127_8 14 rfl) rfl
theorem dX9_advance_145 : DE cX9_advance 145 (.ifCond .eq 62) 3 := dop_153 (dn_w dw127_9 1 rfl) rfl
theorem dX9_advance_148 : DE cX9_advance 148 (.aload_n 0) 1 := dop_42 (dn_w dw127_9 4 rfl)
theorem dX9_advance_149 : DE cX9_advance 149 (.aload_n 0) 1 := dop_42 (dn_w dw127_9 5 rfl)
theorem dX9_advance_150 : DE cX9_advance 150 (.getfield 99) 3 := dop_180 (dn_w dw127_9 6 rfl) rfl
theorem dX9_advance_153 : DE cX9_advance 153 (.aload_n 0) 1 := dop_42 (dn_w dw127_9 9 rfl)
theorem dX9_advance_154 : DE cX9_advance 154 (.getfield 102) 3 := dop_180 (dn_w dw127_9 10 rfl) rfl
theorem dX9_advance_157 : DE cX9_advance 157 (.isub) 1 := dop_100 (dn_w dw127_9 13 rfl)
theorem dX9_advance_158 : DE cX9_advance 158 (.bipush 8) 2 := dop_16 (dn_w dw127_9 14 rfl) rfl
theorem dX9_advance_160 : DE cX9_advance 160 (.if_icmp .ge 28) 3 := dop_162 (dn_w dw127_10 0 rfl) rfl
theorem dX9_advance_163 : DE cX9_advance 163 (.ldc2_w 126) 3 := dop_20 (dn_w dw127_10 3 rfl) rfl
theorem dX9_advance_166 : DE cX9_advance 166 (.aload_n 0) 1 := dop_42 (dn_w dw127_10 6 rfl)
theorem dX9_advance_167 : DE cX9_advance 167 (.getfield 119) 3 := dop_180 (dn_w dw127_10 7 rfl) rfl
theorem dX9_advance_170 : DE cX9_advance 170 (.lmul) 1 := dop_105 (dn_w dw127_10 10 rfl)
theorem dX9_advance_171 : DE cX9_advance 171 (.aload_n 0) 1 := dop_42 (dn_w dw127_10 11 rfl)
theorem dX9_advance_172 : DE cX9_advance 172 (.aload_n 0) 1 := dop_42 (dn_w dw127_10 12 rfl)
theorem dX9_advance_173 : DE cX9_advance 173 (.getfield 99) 3 := dop_180 (dn_w dw127_10 13 rfl) rfl
theorem dX9_advance_176 : DE cX9_advance 176 (.invokevirtual 105) 3 := dop_182 (dn_w dw127_11 0 rfl) rfl
theorem dX9_advance_179 : DE cX9_advance 179 (.i2l) 1 := dop_133 (dn_w dw127_11 3 rfl)
theorem dX9_advance_180 : DE cX9_advance 180 (.ladd) 1 := dop_97 (dn_w dw127_11 4 rfl)
theorem dX9_advance_181 : DE cX9_advance 181 (.ldc2_w 128) 3 := dop_20 (dn_w dw127_11 5 rfl) rfl
theorem dX9_advance_184 : DE cX9_advance 184 (.lsub) 1 := dop_101 (dn_w dw127_11 8 rfl)
theorem dX9_advance_185 : DE cX9_advance 185 (.goto 6) 3 := dop_167 (dn_w dw127_11 9 rfl) rfl
theorem dX9_advance_188 : DE cX9_advance 188 (.ldc2_w 130) 3 := dop_20 (dn_w dw127_11 12 rfl) rfl
theorem dX9_advance_191 : DE cX9_advance 191 (.putfield 119) 3 := dop_181 (dn_w dw127_11 15 rfl) rfl
theorem dX9_advance_194 : DE cX9_advance 194 (.aload_n 0) 1 := dop_42 (dn_w dw127_12 2 rfl)
theorem dX9_advance_195 : DE cX9_advance 195 (.dup) 1 := dop_89 (dn_w dw127_12 3 rfl)
theorem dX9_advance_196 : DE cX9_advance 196 (.getfield 99) 3 := dop_180 (dn_w dw127_12 4 rfl) rfl
theorem dX9_advance_199 : DE cX9_advance 199 (.iconst 1) 1 := dop_4 (dn_w dw127_12 7 rfl)
theorem dX9_advance_200 : DE cX9_advance 200 (.iadd) 1 := dop_96 (dn_w dw127_12 8 rfl)
theorem dX9_advance_201 : DE cX9_advance 201 (.putfield 99) 3 := dop_181 (dn_w dw127_12 9 rfl) rfl
theorem dX9_advance_204 : DE cX9_advance 204 (.goto (-78)) 3 := dop_167 (dn_w dw127_12 12 rfl) rfl
theorem dX9_advance_207 : DE cX9_advance 207 (.aload_n 0) 1 := dop_42 (dn_w dw127_12 15 rfl)
theorem dX9_advance_208 : DE cX9_advance 208 (.getfield 116) 3 := dop_180 (dn_w dw127_13 0 rfl) rfl
theorem dX9_advance_211 : DE cX9_advance 211 (.iconst 2) 1 := dop_5 (dn_w dw127_13 3 rfl)
theorem dX9_advance_212 : DE cX9_advance 212 (.if_icmp .ne 70) 3 := dop_160 (dn_w dw127_13 4 rfl) rfl
theorem dX9_advance_215 : DE cX9_advance 215 (.aload_n 0) 1 := dop_42 (dn_w dw127_13 7 rfl)
theorem dX9_advance_216 : DE cX9_advance 216 (.aload_n 0) 1 := dop_42 (dn_w dw127_13 8 rfl)
theorem dX9_advance_217 : DE cX9_advance 217 (.getfield 99) 3 := dop_180 (dn_w dw127_13 9 rfl) rfl
theorem dX9_advance_220 : DE cX9_advance 220 (.invokevirtual 105) 3 := dop_182 (dn_w dw127_13 12 rfl) rfl
theorem dX9_advance_223 : DE cX9_advance 223 (.invokestatic 113) 3 := dop_184 (dn_w dw127_13 15 rfl) rfl
theorem dX9_advance_226 : DE cX9_advance 226 (.ifCond .eq 56) 3 := dop_153 (dn_w dw127_14 2 rfl) rfl
theorem dX9_advance_229 : DE cX9_advance 229 (.aload_n 0) 1 := dop_42 (dn_w dw127_14 5 rfl)
theorem dX9_advance_230 : DE cX9_advance 230 (.aload_n 0) 1 := dop_42 (dn_w dw127_14 6 rfl)
theorem dX9_advance_231 : DE cX9_advance 231 (.getfield 99) 3 := dop_180 (dn_w dw127_14 7 rfl) rfl
theorem dX9_advance_234 : DE cX9_advance 234 (.aload_n 0) 1 := dop_42 (dn_w dw127_14 10 rfl)
theorem dX9_advance_235 : DE cX9_advance 235 (.getfield 102) 3 := dop_180 (dn_w dw127_14 11 rfl) rfl
theorem dX9_advance_238 : DE cX9_advance 238 (.isub) 1 := dop_100 (dn_w dw127_14 14 rfl)
theorem dX9_advance_239 : DE cX9_advance 239 (.iconst 2) 1 := dop_5 (dn_w dw127_14 15 rfl)
theorem dX9_advance_240 : DE cX9_advance 240 (.if_icmp .ge 25) 3 := dop_162 (dn_w dw127_15 0 rfl) rfl
theorem dX9_advance_243 : DE cX9_advance 243 (.bipush 10) 2 := dop_16 (dn_w dw127_15 3 rfl) rfl
theorem dX9_advance_245 : DE cX9_advance 245 (.aload_n 0) 1 := dop_42 (dn_w dw127_15 5 rfl)
theorem dX9_advance_246 : DE cX9_advance 246 (.getfield 123) 3 := dop_180 (dn_w dw127_15 6 rfl) rfl
theorem dX9_advance_249 : DE cX9_advance 249 (.imul) 1 := dop_104 (dn_w dw127_15 9 rfl)
theorem dX9_advance_250 : DE cX9_advance 250 (.aload_n 0) 1 := dop_42 (dn_w dw127_15 10 rfl)
theorem dX9_advance_251 : DE cX9_advance 251 (.aload_n 0) 1 := dop_42 (dn_w dw127_15 11 rfl)
theorem dX9_advance_252 : DE cX9_advance 252 (.getfield 99) 3 := dop_180 (dn_w dw127_15 12 rfl) rfl
theorem dX9_advance_255 : DE cX9_advance 255 (.invokevirtual 105) 3 := dop_182 (dn_w dw127_15 15 rfl) rfl
theorem dX9_advance_258 : DE cX9_advance 258 (.iadd) 1 := dop_96 (dn_w dw127_16 2 rfl)
theorem dX9_advance_259 : DE cX9_advance 259 (.bipush 48) 2 := dop_16 (dn_w dw127_16 3 rfl) rfl
theorem dX9_advance_261 : DE cX9_advance 261 (.isub) 1 := dop_100 (dn_w dw127_16 5 rfl)
theorem dX9_advance_262 : DE cX9_advance 262 (.goto 4) 3 := dop_167 (dn_w dw127_16 6 rfl) rfl
theorem dX9_advance_265 : DE cX9_advance 265 (.iconst (-1)) 1 := dop_2 (dn_w dw127_16 9 rfl)
theorem dX9_advance_266 : DE cX9_advance 266 (.putfield 123) 3 := dop_181 (dn_w dw127_16 10 rfl) rfl
theorem dX9_advance_269 : DE cX9_advance 269 (.aload_n 0) 1 := dop_42 (dn_w dw127_16 13 rfl)
theorem dX9_advance_270 : DE cX9_advance 270 (.dup) 1 := dop_89 (dn_w dw127_16 14 rfl)
theorem dX9_advance_271 : DE cX9_advance 271 (.getfield 99) 3 := dop_180 (dn_w dw127_16 15 rfl) rfl
theorem dX9_advance_274 : DE cX9_advance 274 (.iconst 1) 1 := dop_4 (dn_w dw127_17 2 rfl)
theorem dX9_advance_275 : DE cX9_advance 275 (.iadd) 1 := dop_96 (dn_w dw127_17 3 rfl)
theorem dX9_advance_276 : DE cX9_advance 276 (.putfield 99) 3 := dop_181 (dn_w dw127_17 4 rfl) rfl
theorem dX9_advance_279 : DE cX9_advance 279 (.goto (-72)) 3 := dop_167 (dn_w dw127_17 7 rfl) rfl
theorem dX9_advance_282 : DE cX9_advance 282 (.return_) 1 := dop_177 (dn_w dw127_17 10 rfl)
noncomputable def dt128_1 : List Nat := 7 :: 4 :: 167 :: 0 :: 4 :: 3 :: 172 :: []
noncomputable def dt128_0 : List Nat := 42 :: 180 :: 0 :: 116 :: 4 :: 160 :: 0 :: 16 :: 42 :: 180 :: 0 :: 119 :: 31 :: 148 :: 154 :: 0 :: dt128_1
theorem dw128_0 : dn cX9_isWord 0 = dt128_0 := by decide +kernel
theorem dw128_1 : dn cX9_isWord 16 = dt128_1 := dn_w dw128_0 16 rfl
theorem dX9_isWord_0 : DE cX9_isWord 0 (.aload_n 0) 1 := dop_42 (dn_w dw128_0 0 rfl)
theorem dX9_isWord_1 : DE cX9_isWord 1 (.getfield 116) 3 := dop_180 (dn_w dw128_0 1 rfl) rfl
theorem dX9_isWord_4 : DE cX9_isWord 4 (.iconst 1) 1 := dop_4 (dn_w dw128_0 4 rfl)
theorem dX9_isWord_5 : DE cX9_isWord 5 (.if_icmp .ne 16) 3 := dop_160 (dn_w dw128_0 5 rfl) rfl
theorem dX9_isWord_8 : DE cX9_isWord 8 (.aload_n 0) 1 := dop_42 (dn_w dw128_0 8 rfl)
theorem dX9_isWord_9 : DE cX9_isWord 9 (.getfield 119) 3 := dop_180 (dn_w dw128_0 9 rfl) rfl
theorem dX9_isWord_12 : DE cX9_isWord 12 (.lload_n 1) 1 := dop_31 (dn_w dw128_0 12 rfl)
theorem dX9_isWord_13 : DE cX9_isWord 13 (.lcmp) 1 := dop_148 (dn_w dw128_0 13 rfl)
theorem dX9_isWord_14 : DE cX9_isWord 14 (.ifCond .ne 7) 3 := dop_154 (dn_w dw128_0 14 rfl) rfl
theorem dX9_isWord_17 : DE cX9_isWord 17 (.iconst 1) 1 := dop_4 (dn_w dw128_1 1 rfl)
theorem dX9_isWord_18 : DE cX9_isWord 18 (.goto 4) 3 := dop_167 (dn_w dw128_1 2 rfl) rfl
theorem dX9_isWord_21 : DE cX9_isWord 21 (.iconst 0) 1 := dop_3 (dn_w dw128_1 5 rfl)
theorem dX9_isWord_22 : DE cX9_isWord 22 (.ireturn) 1 := dop_172 (dn_w dw128_1 6 rfl)
noncomputable def dt129_1 : List Nat := 4 :: 167 :: 0 :: 4 :: 3 :: 172 :: []
noncomputable def dt129_0 : List Nat := 42 :: 180 :: 0 :: 116 :: 6 :: 160 :: 0 :: 15 :: 42 :: 180 :: 0 :: 123 :: 27 :: 160 :: 0 :: 7 :: dt129_1
theorem dw129_0 : dn cX9_isMark 0 = dt129_0 := by decide +kernel
theorem dw129_1 : dn cX9_isMark 16 = dt129_1 := dn_w dw129_0 16 rfl
theorem dX9_isMark_0 : DE cX9_isMark 0 (.aload_n 0) 1 := dop_42 (dn_w dw129_0 0 rfl)
theorem dX9_isMark_1 : DE cX9_isMark 1 (.getfield 116) 3 := dop_180 (dn_w dw129_0 1 rfl) rfl
theorem dX9_isMark_4 : DE cX9_isMark 4 (.iconst 3) 1 := dop_6 (dn_w dw129_0 4 rfl)
theorem dX9_isMark_5 : DE cX9_isMark 5 (.if_icmp .ne 15) 3 := dop_160 (dn_w dw129_0 5 rfl) rfl
theorem dX9_isMark_8 : DE cX9_isMark 8 (.aload_n 0) 1 := dop_42 (dn_w dw129_0 8 rfl)
theorem dX9_isMark_9 : DE cX9_isMark 9 (.getfield 123) 3 := dop_180 (dn_w dw129_0 9 rfl) rfl
theorem dX9_isMark_12 : DE cX9_isMark 12 (.iload_n 1) 1 := dop_27 (dn_w dw129_0 12 rfl)
theorem dX9_isMark_13 : DE cX9_isMark 13 (.if_icmp .ne 7) 3 := dop_160 (dn_w dw129_0 13 rfl) rfl
theorem dX9_isMark_16 : DE cX9_isMark 16 (.iconst 1) 1 := dop_4 (dn_w dw129_1 0 rfl)
theorem dX9_isMark_17 : DE cX9_isMark 17 (.goto 4) 3 := dop_167 (dn_w dw129_1 1 rfl) rfl
theorem dX9_isMark_20 : DE cX9_isMark 20 (.iconst 0) 1 := dop_3 (dn_w dw129_1 4 rfl)
theorem dX9_isMark_21 : DE cX9_isMark 21 (.ireturn) 1 := dop_172 (dn_w dw129_1 5 rfl)
noncomputable def dt130_5 : List Nat := 8 :: 167 :: 0 :: 4 :: 2 :: 172 :: []
noncomputable def dt130_4 : List Nat := 0 :: 7 :: 7 :: 167 :: 0 :: 18 :: 42 :: 20 :: 0 :: 146 :: 182 :: 0 :: 134 :: 153 :: 0 :: 7 :: dt130_5
noncomputable def dt130_3 : List Nat := 134 :: 153 :: 0 :: 7 :: 6 :: 167 :: 0 :: 32 :: 42 :: 20 :: 0 :: 144 :: 182 :: 0 :: 134 :: 153 :: dt130_4
noncomputable def dt130_2 : List Nat := 182 :: 0 :: 134 :: 153 :: 0 :: 7 :: 5 :: 167 :: 0 :: 46 :: 42 :: 20 :: 0 :: 142 :: 182 :: 0 :: dt130_3
noncomputable def dt130_1 : List Nat := 0 :: 138 :: 182 :: 0 :: 134 :: 153 :: 0 :: 7 :: 4 :: 167 :: 0 :: 60 :: 42 :: 20 :: 0 :: 140 :: dt130_2
noncomputable def dt130_0 : List Nat := 42 :: 20 :: 0 :: 132 :: 182 :: 0 :: 134 :: 153 :: 0 :: 7 :: 3 :: 167 :: 0 :: 74 :: 42 :: 20 :: dt130_1
theorem dw130_0 : dn cX9_kindHere 0 = dt130_0 := by decide +kernel
theorem dw130_1 : dn cX9_kindHere 16 = dt130_1 := dn_w dw130_0 16 rfl
theorem dw130_2 : dn cX9_kindHere 32 = dt130_2 := dn_w dw130_1 16 rfl
theorem dw130_3 : dn cX9_kindHere 48 = dt130_3 := dn_w dw130_2 16 rfl
theorem dw130_4 : dn cX9_kindHere 64 = dt130_4 := dn_w dw130_3 16 rfl
theorem dw130_5 : dn cX9_kindHere 80 = dt130_5 := dn_w dw130_4 16 rfl
theorem dX9_kindHere_0 : DE cX9_kindHere 0 (.aload_n 0) 1 := dop_42 (dn_w dw130_0 0 rfl)
theorem dX9_kindHere_1 : DE cX9_kindHere 1 (.ldc2_w 132) 3 := dop_20 (dn_w dw130_0 1 rfl) rfl
theorem dX9_kindHere_4 : DE cX9_kindHere 4 (.invokevirtual 134) 3 := dop_182 (dn_w dw130_0 4 rfl) rfl
theorem dX9_kindHere_7 : DE cX9_kindHere 7 (.ifCond .eq 7) 3 := dop_153 (dn_w dw130_0 7 rfl) rfl
theorem dX9_kindHere_10 : DE cX9_kindHere 10 (.iconst 0) 1 := dop_3 (dn_w dw130_0 10 rfl)
theorem dX9_kindHere_11 : DE cX9_kindHere 11 (.goto 74) 3 := dop_167 (dn_w dw130_0 11 rfl) rfl
theorem dX9_kindHere_14 : DE cX9_kindHere 14 (.aload_n 0) 1 := dop_42 (dn_w dw130_0 14 rfl)
theorem dX9_kindHere_15 : DE cX9_kindHere 15 (.ldc2_w 138) 3 := dop_20 (dn_w dw130_0 15 rfl) rfl
theorem dX9_kindHere_18 : DE cX9_kindHere 18 (.invokevirtual 134) 3 := dop_182 (dn_w dw130_1 2 rfl) rfl
theorem dX9_kindHere_21 : DE cX9_kindHere 21 (.ifCond .eq 7) 3 := dop_153 (dn_w dw130_1 5 rfl) rfl
theorem dX9_kindHere_24 : DE cX9_kindHere 24 (.iconst 1) 1 := dop_4 (dn_w dw130_1 8 rfl)
theorem dX9_kindHere_25 : DE cX9_kindHere 25 (.goto 60) 3 := dop_167 (dn_w dw130_1 9 rfl) rfl
theorem dX9_kindHere_28 : DE cX9_kindHere 28 (.aload_n 0) 1 := dop_42 (dn_w dw130_1 12 rfl)
theorem dX9_kindHere_29 : DE cX9_kindHere 29 (.ldc2_w 140) 3 := dop_20 (dn_w dw130_1 13 rfl) rfl
theorem dX9_kindHere_32 : DE cX9_kindHere 32 (.invokevirtual 134) 3 := dop_182 (dn_w dw130_2 0 rfl) rfl
theorem dX9_kindHere_35 : DE cX9_kindHere 35 (.ifCond .eq 7) 3 := dop_153 (dn_w dw130_2 3 rfl) rfl
theorem dX9_kindHere_38 : DE cX9_kindHere 38 (.iconst 2) 1 := dop_5 (dn_w dw130_2 6 rfl)
theorem dX9_kindHere_39 : DE cX9_kindHere 39 (.goto 46) 3 := dop_167 (dn_w dw130_2 7 rfl) rfl
theorem dX9_kindHere_42 : DE cX9_kindHere 42 (.aload_n 0) 1 := dop_42 (dn_w dw130_2 10 rfl)
theorem dX9_kindHere_43 : DE cX9_kindHere 43 (.ldc2_w 142) 3 := dop_20 (dn_w dw130_2 11 rfl) rfl
theorem dX9_kindHere_46 : DE cX9_kindHere 46 (.invokevirtual 134) 3 := dop_182 (dn_w dw130_2 14 rfl) rfl
theorem dX9_kindHere_49 : DE cX9_kindHere 49 (.ifCond .eq 7) 3 := dop_153 (dn_w dw130_3 1 rfl) rfl
theorem dX9_kindHere_52 : DE cX9_kindHere 52 (.iconst 3) 1 := dop_6 (dn_w dw130_3 4 rfl)
theorem dX9_kindHere_53 : DE cX9_kindHere 53 (.goto 32) 3 := dop_167 (dn_w dw130_3 5 rfl) rfl
theorem dX9_kindHere_56 : DE cX9_kindHere 56 (.aload_n 0) 1 := dop_42 (dn_w dw130_3 8 rfl)
theorem dX9_kindHere_57 : DE cX9_kindHere 57 (.ldc2_w 144) 3 := dop_20 (dn_w dw130_3 9 rfl) rfl
theorem dX9_kindHere_60 : DE cX9_kindHere 60 (.invokevirtual 134) 3 := dop_182 (dn_w dw130_3 12 rfl) rfl
theorem dX9_kindHere_63 : DE cX9_kindHere 63 (.ifCond .eq 7) 3 := dop_153 (dn_w dw130_3 15 rfl) rfl
theorem dX9_kindHere_66 : DE cX9_kindHere 66 (.iconst 4) 1 := dop_7 (dn_w dw130_4 2 rfl)
theorem dX9_kindHere_67 : DE cX9_kindHere 67 (.goto 18) 3 := dop_167 (dn_w dw130_4 3 rfl) rfl
theorem dX9_kindHere_70 : DE cX9_kindHere 70 (.aload_n 0) 1 := dop_42 (dn_w dw130_4 6 rfl)
theorem dX9_kindHere_71 : DE cX9_kindHere 71 (.ldc2_w 146) 3 := dop_20 (dn_w dw130_4 7 rfl) rfl
theorem dX9_kindHere_74 : DE cX9_kindHere 74 (.invokevirtual 134) 3 := dop_182 (dn_w dw130_4 10 rfl) rfl
theorem dX9_kindHere_77 : DE cX9_kindHere 77 (.ifCond .eq 7) 3 := dop_153 (dn_w dw130_4 13 rfl) rfl
theorem dX9_kindHere_80 : DE cX9_kindHere 80 (.iconst 5) 1 := dop_8 (dn_w dw130_5 0 rfl)
theorem dX9_kindHere_81 : DE cX9_kindHere 81 (.goto 4) 3 := dop_167 (dn_w dw130_5 1 rfl) rfl
theorem dX9_kindHere_84 : DE cX9_kindHere 84 (.iconst (-1)) 1 := dop_2 (dn_w dw130_5 4 rfl)
theorem dX9_kindHere_85 : DE cX9_kindHere 85 (.ireturn) 1 := dop_172 (dn_w dw130_5 5 rfl)
noncomputable def dt131_3 : List Nat := 152 :: 29 :: 172 :: []
noncomputable def dt131_2 : List Nat := 0 :: 4 :: 3 :: 181 :: 0 :: 148 :: 42 :: 180 :: 0 :: 148 :: 153 :: 0 :: 7 :: 42 :: 182 :: 0 :: dt131_3
noncomputable def dt131_1 : List Nat := 116 :: 5 :: 160 :: 0 :: 16 :: 29 :: 27 :: 28 :: 184 :: 0 :: 87 :: 153 :: 0 :: 7 :: 4 :: 167 :: dt131_2
noncomputable def dt131_0 : List Nat := 42 :: 180 :: 0 :: 123 :: 62 :: 42 :: 42 :: 180 :: 0 :: 148 :: 153 :: 0 :: 24 :: 42 :: 180 :: 0 :: dt131_1
theorem dw131_0 : dn cX9_wantNumber 0 = dt131_0 := by decide +kernel
theorem dw131_1 : dn cX9_wantNumber 16 = dt131_1 := dn_w dw131_0 16 rfl
theorem dw131_2 : dn cX9_wantNumber 32 = dt131_2 := dn_w dw131_1 16 rfl
theorem dw131_3 : dn cX9_wantNumber 48 = dt131_3 := dn_w dw131_2 16 rfl
theorem dX9_wantNumber_0 : DE cX9_wantNumber 0 (.aload_n 0) 1 := dop_42 (dn_w dw131_0 0 rfl)
theorem dX9_wantNumber_1 : DE cX9_wantNumber 1 (.getfield 123) 3 := dop_180 (dn_w dw131_0 1 rfl) rfl
theorem dX9_wantNumber_4 : DE cX9_wantNumber 4 (.istore_n 3) 1 := dop_62 (dn_w dw131_0 4 rfl)
theorem dX9_wantNumber_5 : DE cX9_wantNumber 5 (.aload_n 0) 1 := dop_42 (dn_w dw131_0 5 rfl)
theorem dX9_wantNumber_6 : DE cX9_wantNumber 6 (.aload_n 0) 1 := dop_42 (dn_w dw131_0 6 rfl)
theorem dX9_wantNumber_7 : DE cX9_wantNumber 7 (.getfield 148) 3 := dop_180 (dn_w dw131_0 7 rfl) rfl
theorem dX9_wantNumber_10 : DE cX9_wantNumber 10 (.ifCond .eq 24) 3 := dop_153 (dn_w dw131_0 10 rfl) rfl
theorem dX9_wantNumber_13 : DE cX9_wantNumber 13 (.aload_n 0) 1 := dop_42 (dn_w dw131_0 13 rfl)
theorem dX9_wantNumber_14 : DE cX9_wantNumber 14 (.getfield 116) 3 := dop_180 (dn_w dw131_0 14 rfl) rfl
theorem dX9_wantNumber_17 : DE cX9_wantNumber 17 (.iconst 2) 1 := dop_5 (dn_w dw131_1 1 rfl)
theorem dX9_wantNumber_18 : DE cX9_wantNumber 18 (.if_icmp .ne 16) 3 := dop_160 (dn_w dw131_1 2 rfl) rfl
theorem dX9_wantNumber_21 : DE cX9_wantNumber 21 (.iload_n 3) 1 := dop_29 (dn_w dw131_1 5 rfl)
theorem dX9_wantNumber_22 : DE cX9_wantNumber 22 (.iload_n 1) 1 := dop_27 (dn_w dw131_1 6 rfl)
theorem dX9_wantNumber_23 : DE cX9_wantNumber 23 (.iload_n 2) 1 := dop_28 (dn_w dw131_1 7 rfl)
theorem dX9_wantNumber_24 : DE cX9_wantNumber 24 (.invokestatic 87) 3 := dop_184 (dn_w dw131_1 8 rfl) rfl
theorem dX9_wantNumber_27 : DE cX9_wantNumber 27 (.ifCond .eq 7) 3 := dop_153 (dn_w dw131_1 11 rfl) rfl
theorem dX9_wantNumber_30 : DE cX9_wantNumber 30 (.iconst 1) 1 := dop_4 (dn_w dw131_1 14 rfl)
theorem dX9_wantNumber_31 : DE cX9_wantNumber 31 (.goto 4) 3 := dop_167 (dn_w dw131_1 15 rfl) rfl
theorem dX9_wantNumber_34 : DE cX9_wantNumber 34 (.iconst 0) 1 := dop_3 (dn_w dw131_2 2 rfl)
theorem dX9_wantNumber_35 : DE cX9_wantNumber 35 (.putfield 148) 3 := dop_181 (dn_w dw131_2 3 rfl) rfl
theorem dX9_wantNumber_38 : DE cX9_wantNumber 38 (.aload_n 0) 1 := dop_42 (dn_w dw131_2 6 rfl)
theorem dX9_wantNumber_39 : DE cX9_wantNumber 39 (.getfield 148) 3 := dop_180 (dn_w dw131_2 7 rfl) rfl
theorem dX9_wantNumber_42 : DE cX9_wantNumber 42 (.ifCond .eq 7) 3 := dop_153 (dn_w dw131_2 10 rfl) rfl
theorem dX9_wantNumber_45 : DE cX9_wantNumber 45 (.aload_n 0) 1 := dop_42 (dn_w dw131_2 13 rfl)
theorem dX9_wantNumber_46 : DE cX9_wantNumber 46 (.invokevirtual 152) 3 := dop_182 (dn_w dw131_2 14 rfl) rfl
theorem dX9_wantNumber_49 : DE cX9_wantNumber 49 (.iload_n 3) 1 := dop_29 (dn_w dw131_3 1 rfl)
theorem dX9_wantNumber_50 : DE cX9_wantNumber 50 (.ireturn) 1 := dop_172 (dn_w dw131_3 2 rfl)
noncomputable def dt132_2 : List Nat := 42 :: 182 :: 0 :: 152 :: 177 :: []
noncomputable def dt132_1 : List Nat := 7 :: 4 :: 167 :: 0 :: 4 :: 3 :: 181 :: 0 :: 148 :: 42 :: 180 :: 0 :: 148 :: 153 :: 0 :: 7 :: dt132_2
noncomputable def dt132_0 : List Nat := 42 :: 42 :: 180 :: 0 :: 148 :: 153 :: 0 :: 16 :: 42 :: 16 :: 59 :: 182 :: 0 :: 155 :: 153 :: 0 :: dt132_1
theorem dw132_0 : dn cX9_wantEnd 0 = dt132_0 := by decide +kernel
theorem dw132_1 : dn cX9_wantEnd 16 = dt132_1 := dn_w dw132_0 16 rfl
theorem dw132_2 : dn cX9_wantEnd 32 = dt132_2 := dn_w dw132_1 16 rfl
theorem dX9_wantEnd_0 : DE cX9_wantEnd 0 (.aload_n 0) 1 := dop_42 (dn_w dw132_0 0 rfl)
theorem dX9_wantEnd_1 : DE cX9_wantEnd 1 (.aload_n 0) 1 := dop_42 (dn_w dw132_0 1 rfl)
theorem dX9_wantEnd_2 : DE cX9_wantEnd 2 (.getfield 148) 3 := dop_180 (dn_w dw132_0 2 rfl) rfl
theorem dX9_wantEnd_5 : DE cX9_wantEnd 5 (.ifCond .eq 16) 3 := dop_153 (dn_w dw132_0 5 rfl) rfl
theorem dX9_wantEnd_8 : DE cX9_wantEnd 8 (.aload_n 0) 1 := dop_42 (dn_w dw132_0 8 rfl)
theorem dX9_wantEnd_9 : DE cX9_wantEnd 9 (.bipush 59) 2 := dop_16 (dn_w dw132_0 9 rfl) rfl
theorem dX9_wantEnd_11 : DE cX9_wantEnd 11 (.invokevirtual 155) 3 := dop_182 (dn_w dw132_0 11 rfl) rfl
theorem dX9_wantEnd_14 : DE cX9_wantEnd 14 (.ifCond .eq 7) 3 := dop_153 (dn_w dw132_0 14 rfl) rfl
theorem dX9_wantEnd_17 : DE cX9_wantEnd 17 (.iconst 1) 1 := dop_4 (dn_w dw132_1 1 rfl)
theorem dX9_wantEnd_18 : DE cX9_wantEnd 18 (.goto 4) 3 := dop_167 (dn_w dw132_1 2 rfl) rfl
theorem dX9_wantEnd_21 : DE cX9_wantEnd 21 (.iconst 0) 1 := dop_3 (dn_w dw132_1 5 rfl)
theorem dX9_wantEnd_22 : DE cX9_wantEnd 22 (.putfield 148) 3 := dop_181 (dn_w dw132_1 6 rfl) rfl
theorem dX9_wantEnd_25 : DE cX9_wantEnd 25 (.aload_n 0) 1 := dop_42 (dn_w dw132_1 9 rfl)
theorem dX9_wantEnd_26 : DE cX9_wantEnd 26 (.getfield 148) 3 := dop_180 (dn_w dw132_1 10 rfl) rfl
theorem dX9_wantEnd_29 : DE cX9_wantEnd 29 (.ifCond .eq 7) 3 := dop_153 (dn_w dw132_1 13 rfl) rfl
theorem dX9_wantEnd_32 : DE cX9_wantEnd 32 (.aload_n 0) 1 := dop_42 (dn_w dw132_2 0 rfl)
theorem dX9_wantEnd_33 : DE cX9_wantEnd 33 (.invokevirtual 152) 3 := dop_182 (dn_w dw132_2 1 rfl) rfl
theorem dX9_wantEnd_36 : DE cX9_wantEnd 36 (.return_) 1 := dop_177 (dn_w dw132_2 4 rfl)
noncomputable def dt133_12 : List Nat := 180 :: 0 :: 158 :: 4 :: 96 :: 181 :: 0 :: 158 :: 177 :: []
noncomputable def dt133_11 : List Nat := 96 :: 21 :: 4 :: 79 :: 42 :: 180 :: 0 :: 44 :: 42 :: 180 :: 0 :: 158 :: 3 :: 79 :: 42 :: 89 :: dt133_12
noncomputable def dt133_10 : List Nat := 104 :: 5 :: 96 :: 29 :: 79 :: 42 :: 180 :: 0 :: 41 :: 7 :: 42 :: 180 :: 0 :: 158 :: 104 :: 6 :: dt133_11
noncomputable def dt133_9 : List Nat := 0 :: 158 :: 104 :: 4 :: 96 :: 28 :: 79 :: 42 :: 180 :: 0 :: 41 :: 7 :: 42 :: 180 :: 0 :: 158 :: dt133_10
noncomputable def dt133_8 : List Nat := 41 :: 7 :: 42 :: 180 :: 0 :: 158 :: 104 :: 27 :: 79 :: 42 :: 180 :: 0 :: 41 :: 7 :: 42 :: 180 :: dt133_9
noncomputable def dt133_7 : List Nat := 54 :: 4 :: 42 :: 182 :: 0 :: 169 :: 42 :: 180 :: 0 :: 148 :: 153 :: 0 :: 78 :: 42 :: 180 :: 0 :: dt133_8
noncomputable def dt133_6 : List Nat := 0 :: 134 :: 153 :: 0 :: 16 :: 42 :: 182 :: 0 :: 152 :: 42 :: 3 :: 16 :: 9 :: 182 :: 0 :: 161 :: dt133_7
noncomputable def dt133_5 : List Nat := 62 :: 3 :: 54 :: 4 :: 42 :: 180 :: 0 :: 148 :: 153 :: 0 :: 26 :: 42 :: 20 :: 0 :: 167 :: 182 :: dt133_6
noncomputable def dt133_4 : List Nat := 180 :: 0 :: 148 :: 153 :: 0 :: 7 :: 42 :: 182 :: 0 :: 152 :: 42 :: 3 :: 8 :: 182 :: 0 :: 161 :: dt133_5
noncomputable def dt133_3 : List Nat := 165 :: 182 :: 0 :: 134 :: 153 :: 0 :: 7 :: 4 :: 167 :: 0 :: 4 :: 3 :: 181 :: 0 :: 148 :: 42 :: dt133_4
noncomputable def dt133_2 : List Nat := 9 :: 182 :: 0 :: 161 :: 61 :: 42 :: 42 :: 180 :: 0 :: 148 :: 153 :: 0 :: 17 :: 42 :: 20 :: 0 :: dt133_3
noncomputable def dt133_1 : List Nat := 0 :: 148 :: 42 :: 180 :: 0 :: 148 :: 153 :: 0 :: 7 :: 42 :: 182 :: 0 :: 152 :: 42 :: 3 :: 16 :: dt133_2
noncomputable def dt133_0 : List Nat := 42 :: 42 :: 180 :: 0 :: 158 :: 16 :: 8 :: 162 :: 0 :: 7 :: 4 :: 167 :: 0 :: 4 :: 3 :: 181 :: dt133_1
theorem dw133_0 : dn cX9_wantChild 0 = dt133_0 := by decide +kernel
theorem dw133_1 : dn cX9_wantChild 16 = dt133_1 := dn_w dw133_0 16 rfl
theorem dw133_2 : dn cX9_wantChild 32 = dt133_2 := dn_w dw133_1 16 rfl
theorem dw133_3 : dn cX9_wantChild 48 = dt133_3 := dn_w dw133_2 16 rfl
theorem dw133_4 : dn cX9_wantChild 64 = dt133_4 := dn_w dw133_3 16 rfl
theorem dw133_5 : dn cX9_wantChild 80 = dt133_5 := dn_w dw133_4 16 rfl
theorem dw133_6 : dn cX9_wantChild 96 = dt133_6 := dn_w dw133_5 16 rfl
theorem dw133_7 : dn cX9_wantChild 112 = dt133_7 := dn_w dw133_6 16 rfl
theorem dw133_8 : dn cX9_wantChild 128 = dt133_8 := dn_w dw133_7 16 rfl
theorem dw133_9 : dn cX9_wantChild 144 = dt133_9 := dn_w dw133_8 16 rfl
theorem dw133_10 : dn cX9_wantChild 160 = dt133_10 := dn_w dw133_9 16 rfl
theorem dw133_11 : dn cX9_wantChild 176 = dt133_11 := dn_w dw133_10 16 rfl
theorem dw133_12 : dn cX9_wantChild 192 = dt133_12 := dn_w dw133_11 16 rfl
theorem dX9_wantChild_0 : DE cX9_wantChild 0 (.aload_n 0) 1 := dop_42 (dn_w dw133_0 0 rfl)
theorem dX9_wantChild_1 : DE cX9_wantChild 1 (.aload_n 0) 1 := dop_42 (dn_w dw133_0 1 rfl)
theorem dX9_wantChild_2 : DE cX9_wantChild 2 (.getfield 158) 3 := dop_180 (dn_w dw133_0 2 rfl) rfl
theorem dX9_wantChild_5 : DE cX9_wantChild 5 (.bipush 8) 2 := dop_16 (dn_w dw133_0 5 rfl) rfl
theorem dX9_wantChild_7 : DE cX9_wantChild 7 (.if_icmp .ge 7) 3 := dop_162 (dn_w dw133_0 7 rfl) rfl
theorem dX9_wantChild_10 : DE cX9_wantChild 10 (.iconst 1) 1 := dop_4 (dn_w dw133_0 10 rfl)
theorem dX9_wantChild_11 : DE cX9_wantChild 11 (.goto 4) 3 := dop_167 (dn_w dw133_0 11 rfl) rfl
theorem dX9_wantChild_14 : DE cX9_wantChild 14 (.iconst 0) 1 := dop_3 (dn_w dw133_0 14 rfl)
theorem dX9_wantChild_15 : DE cX9_wantChild 15 (.putfield 148) 3 := dop_181 (dn_w dw133_0 15 rfl) rfl
theorem dX9_wantChild_18 : DE cX9_wantChild 18 (.aload_n 0) 1 := dop_42 (dn_w dw133_1 2 rfl)
theorem dX9_wantChild_19 : DE cX9_wantChild 19 (.getfield 148) 3 := dop_180 (dn_w dw133_1 3 rfl) rfl
theorem dX9_wantChild_22 : DE cX9_wantChild 22 (.ifCond .eq 7) 3 := dop_153 (dn_w dw133_1 6 rfl) rfl
theorem dX9_wantChild_25 : DE cX9_wantChild 25 (.aload_n 0) 1 := dop_42 (dn_w dw133_1 9 rfl)
theorem dX9_wantChild_26 : DE cX9_wantChild 26 (.invokevirtual 152) 3 := dop_182 (dn_w dw133_1 10 rfl) rfl
theorem dX9_wantChild_29 : DE cX9_wantChild 29 (.aload_n 0) 1 := dop_42 (dn_w dw133_1 13 rfl)
theorem dX9_wantChild_30 : DE cX9_wantChild 30 (.iconst 0) 1 := dop_3 (dn_w dw133_1 14 rfl)
theorem dX9_wantChild_31 : DE cX9_wantChild 31 (.bipush 9) 2 := dop_16 (dn_w dw133_1 15 rfl) rfl
theorem dX9_wantChild_33 : DE cX9_wantChild 33 (.invokevirtual 161) 3 := dop_182 (dn_w dw133_2 1 rfl) rfl
theorem dX9_wantChild_36 : DE cX9_wantChild 36 (.istore_n 2) 1 := dop_61 (dn_w dw133_2 4 rfl)
theorem dX9_wantChild_37 : DE cX9_wantChild 37 (.aload_n 0) 1 := dop_42 (dn_w dw133_2 5 rfl)
theorem dX9_wantChild_38 : DE cX9_wantChild 38 (.aload_n 0) 1 := dop_42 (dn_w dw133_2 6 rfl)
theorem dX9_wantChild_39 : DE cX9_wantChild 39 (.getfield 148) 3 := dop_180 (dn_w dw133_2 7 rfl) rfl
theorem dX9_wantChild_42 : DE cX9_wantChild 42 (.ifCond .eq 17) 3 := dop_153 (dn_w dw133_2 10 rfl) rfl
theorem dX9_wantChild_45 : DE cX9_wantChild 45 (.aload_n 0) 1 := dop_42 (dn_w dw133_2 13 rfl)
theorem dX9_wantChild_46 : DE cX9_wantChild 46 (.ldc2_w 165) 3 := dop_20 (dn_w dw133_2 14 rfl) rfl
theorem dX9_wantChild_49 : DE cX9_wantChild 49 (.invokevirtual 134) 3 := dop_182 (dn_w dw133_3 1 rfl) rfl
theorem dX9_wantChild_52 : DE cX9_wantChild 52 (.ifCond .eq 7) 3 := dop_153 (dn_w dw133_3 4 rfl) rfl
theorem dX9_wantChild_55 : DE cX9_wantChild 55 (.iconst 1) 1 := dop_4 (dn_w dw133_3 7 rfl)
theorem dX9_wantChild_56 : DE cX9_wantChild 56 (.goto 4) 3 := dop_167 (dn_w dw133_3 8 rfl) rfl
theorem dX9_wantChild_59 : DE cX9_wantChild 59 (.iconst 0) 1 := dop_3 (dn_w dw133_3 11 rfl)
theorem dX9_wantChild_60 : DE cX9_wantChild 60 (.putfield 148) 3 := dop_181 (dn_w dw133_3 12 rfl) rfl
theorem dX9_wantChild_63 : DE cX9_wantChild 63 (.aload_n 0) 1 := dop_42 (dn_w dw133_3 15 rfl)
theorem dX9_wantChild_64 : DE cX9_wantChild 64 (.getfield 148) 3 := dop_180 (dn_w dw133_4 0 rfl) rfl
theorem dX9_wantChild_67 : DE cX9_wantChild 67 (.ifCond .eq 7) 3 := dop_153 (dn_w dw133_4 3 rfl) rfl
theorem dX9_wantChild_70 : DE cX9_wantChild 70 (.aload_n 0) 1 := dop_42 (dn_w dw133_4 6 rfl)
theorem dX9_wantChild_71 : DE cX9_wantChild 71 (.invokevirtual 152) 3 := dop_182 (dn_w dw133_4 7 rfl) rfl
theorem dX9_wantChild_74 : DE cX9_wantChild 74 (.aload_n 0) 1 := dop_42 (dn_w dw133_4 10 rfl)
theorem dX9_wantChild_75 : DE cX9_wantChild 75 (.iconst 0) 1 := dop_3 (dn_w dw133_4 11 rfl)
theorem dX9_wantChild_76 : DE cX9_wantChild 76 (.iconst 5) 1 := dop_8 (dn_w dw133_4 12 rfl)
theorem dX9_wantChild_77 : DE cX9_wantChild 77 (.invokevirtual 161) 3 := dop_182 (dn_w dw133_4 13 rfl) rfl
theorem dX9_wantChild_80 : DE cX9_wantChild 80 (.istore_n 3) 1 := dop_62 (dn_w dw133_5 0 rfl)
theorem dX9_wantChild_81 : DE cX9_wantChild 81 (.iconst 0) 1 := dop_3 (dn_w dw133_5 1 rfl)
theorem dX9_wantChild_82 : DE cX9_wantChild 82 (.istore 4) 2 := dop_54 (dn_w dw133_5 2 rfl)
theorem dX9_wantChild_84 : DE cX9_wantChild 84 (.aload_n 0) 1 := dop_42 (dn_w dw133_5 4 rfl)
theorem dX9_wantChild_85 : DE cX9_wantChild 85 (.getfield 148) 3 := dop_180 (dn_w dw133_5 5 rfl) rfl
theorem dX9_wantChild_88 : DE cX9_wantChild 88 (.ifCond .eq 26) 3 := dop_153 (dn_w dw133_5 8 rfl) rfl
theorem dX9_wantChild_91 : DE cX9_wantChild 91 (.aload_n 0) 1 := dop_42 (dn_w dw133_5 11 rfl)
theorem dX9_wantChild_92 : DE cX9_wantChild 92 (.ldc2_w 167) 3 := dop_20 (dn_w dw133_5 12 rfl) rfl
theorem dX9_wantChild_95 : DE cX9_wantChild 95 (.invokevirtual 134) 3 := dop_182 (dn_w dw133_5 15 rfl) rfl
theorem dX9_wantChild_98 : DE cX9_wantChild 98 (.ifCond .eq 16) 3 := dop_153 (dn_w dw133_6 2 rfl) rfl
theorem dX9_wantChild_101 : DE cX9_wantChild 101 (.aload_n 0) 1 := dop_42 (dn_w dw133_6 5 rfl)
theorem dX9_wantChild_102 : DE cX9_wantChild 102 (.invokevirtual 152) 3 := dop_182 (dn_w dw133_6 6 rfl) rfl
theorem dX9_wantChild_105 : DE cX9_wantChild 105 (.aload_n 0) 1 := dop_42 (dn_w dw133_6 9 rfl)
theorem dX9_wantChild_106 : DE cX9_wantChild 106 (.iconst 0) 1 := dop_3 (dn_w dw133_6 10 rfl)
theorem dX9_wantChild_107 : DE cX9_wantChild 107 (.bipush 9) 2 := dop_16 (dn_w dw133_6 11 rfl) rfl
theorem dX9_wantChild_109 : DE cX9_wantChild 109 (.invokevirtual 161) 3 := dop_182 (dn_w dw133_6 13 rfl) rfl
theorem dX9_wantChild_112 : DE cX9_wantChild 112 (.istore 4) 2 := dop_54 (dn_w dw133_7 0 rfl)
theorem dX9_wantChild_114 : DE cX9_wantChild 114 (.aload_n 0) 1 := dop_42 (dn_w dw133_7 2 rfl)
theorem dX9_wantChild_115 : DE cX9_wantChild 115 (.invokevirtual 169) 3 := dop_182 (dn_w dw133_7 3 rfl) rfl
theorem dX9_wantChild_118 : DE cX9_wantChild 118 (.aload_n 0) 1 := dop_42 (dn_w dw133_7 6 rfl)
theorem dX9_wantChild_119 : DE cX9_wantChild 119 (.getfield 148) 3 := dop_180 (dn_w dw133_7 7 rfl) rfl
theorem dX9_wantChild_122 : DE cX9_wantChild 122 (.ifCond .eq 78) 3 := dop_153 (dn_w dw133_7 10 rfl) rfl
theorem dX9_wantChild_125 : DE cX9_wantChild 125 (.aload_n 0) 1 := dop_42 (dn_w dw133_7 13 rfl)
theorem dX9_wantChild_126 : DE cX9_wantChild 126 (.getfield 41) 3 := dop_180 (dn_w dw133_7 14 rfl) rfl
theorem dX9_wantChild_129 : DE cX9_wantChild 129 (.iconst 4) 1 := dop_7 (dn_w dw133_8 1 rfl)
theorem dX9_wantChild_130 : DE cX9_wantChild 130 (.aload_n 0) 1 := dop_42 (dn_w dw133_8 2 rfl)
theorem dX9_wantChild_131 : DE cX9_wantChild 131 (.getfield 158) 3 := dop_180 (dn_w dw133_8 3 rfl) rfl
theorem dX9_wantChild_134 : DE cX9_wantChild 134 (.imul) 1 := dop_104 (dn_w dw133_8 6 rfl)
theorem dX9_wantChild_135 : DE cX9_wantChild 135 (.iload_n 1) 1 := dop_27 (dn_w dw133_8 7 rfl)
theorem dX9_wantChild_136 : DE cX9_wantChild 136 (.iastore) 1 := dop_79 (dn_w dw133_8 8 rfl)
theorem dX9_wantChild_137 : DE cX9_wantChild 137 (.aload_n 0) 1 := dop_42 (dn_w dw133_8 9 rfl)
theorem dX9_wantChild_138 : DE cX9_wantChild 138 (.getfield 41) 3 := dop_180 (dn_w dw133_8 10 rfl) rfl
theorem dX9_wantChild_141 : DE cX9_wantChild 141 (.iconst 4) 1 := dop_7 (dn_w dw133_8 13 rfl)
theorem dX9_wantChild_142 : DE cX9_wantChild 142 (.aload_n 0) 1 := dop_42 (dn_w dw133_8 14 rfl)
theorem dX9_wantChild_143 : DE cX9_wantChild 143 (.getfield 158) 3 := dop_180 (dn_w dw133_8 15 rfl) rfl
theorem dX9_wantChild_146 : DE cX9_wantChild 146 (.imul) 1 := dop_104 (dn_w dw133_9 2 rfl)
theorem dX9_wantChild_147 : DE cX9_wantChild 147 (.iconst 1) 1 := dop_4 (dn_w dw133_9 3 rfl)
theorem dX9_wantChild_148 : DE cX9_wantChild 148 (.iadd) 1 := dop_96 (dn_w dw133_9 4 rfl)
theorem dX9_wantChild_149 : DE cX9_wantChild 149 (.iload_n 2) 1 := dop_28 (dn_w dw133_9 5 rfl)
theorem dX9_wantChild_150 : DE cX9_wantChild 150 (.iastore) 1 := dop_79 (dn_w dw133_9 6 rfl)
theorem dX9_wantChild_151 : DE cX9_wantChild 151 (.aload_n 0) 1 := dop_42 (dn_w dw133_9 7 rfl)
theorem dX9_wantChild_152 : DE cX9_wantChild 152 (.getfield 41) 3 := dop_180 (dn_w dw133_9 8 rfl) rfl
theorem dX9_wantChild_155 : DE cX9_wantChild 155 (.iconst 4) 1 := dop_7 (dn_w dw133_9 11 rfl)
theorem dX9_wantChild_156 : DE cX9_wantChild 156 (.aload_n 0) 1 := dop_42 (dn_w dw133_9 12 rfl)
theorem dX9_wantChild_157 : DE cX9_wantChild 157 (.getfield 158) 3 := dop_180 (dn_w dw133_9 13 rfl) rfl
theorem dX9_wantChild_160 : DE cX9_wantChild 160 (.imul) 1 := dop_104 (dn_w dw133_10 0 rfl)
theorem dX9_wantChild_161 : DE cX9_wantChild 161 (.iconst 2) 1 := dop_5 (dn_w dw133_10 1 rfl)
theorem dX9_wantChild_162 : DE cX9_wantChild 162 (.iadd) 1 := dop_96 (dn_w dw133_10 2 rfl)
theorem dX9_wantChild_163 : DE cX9_wantChild 163 (.iload_n 3) 1 := dop_29 (dn_w dw133_10 3 rfl)
theorem dX9_wantChild_164 : DE cX9_wantChild 164 (.iastore) 1 := dop_79 (dn_w dw133_10 4 rfl)
theorem dX9_wantChild_165 : DE cX9_wantChild 165 (.aload_n 0) 1 := dop_42 (dn_w dw133_10 5 rfl)
theorem dX9_wantChild_166 : DE cX9_wantChild 166 (.getfield 41) 3 := dop_180 (dn_w dw133_10 6 rfl) rfl
theorem dX9_wantChild_169 : DE cX9_wantChild 169 (.iconst 4) 1 := dop_7 (dn_w dw133_10 9 rfl)
theorem dX9_wantChild_170 : DE cX9_wantChild 170 (.aload_n 0) 1 := dop_42 (dn_w dw133_10 10 rfl)
theorem dX9_wantChild_171 : DE cX9_wantChild 171 (.getfield 158) 3 := dop_180 (dn_w dw133_10 11 rfl) rfl
theorem dX9_wantChild_174 : DE cX9_wantChild 174 (.imul) 1 := dop_104 (dn_w dw133_10 14 rfl)
theorem dX9_wantChild_175 : DE cX9_wantChild 175 (.iconst 3) 1 := dop_6 (dn_w dw133_10 15 rfl)
theorem dX9_wantChild_176 : DE cX9_wantChild 176 (.iadd) 1 := dop_96 (dn_w dw133_11 0 rfl)
theorem dX9_wantChild_177 : DE cX9_wantChild 177 (.iload 4) 2 := dop_21 (dn_w dw133_11 1 rfl)
theorem dX9_wantChild_179 : DE cX9_wantChild 179 (.iastore) 1 := dop_79 (dn_w dw133_11 3 rfl)
theorem dX9_wantChild_180 : DE cX9_wantChild 180 (.aload_n 0) 1 := dop_42 (dn_w dw133_11 4 rfl)
theorem dX9_wantChild_181 : DE cX9_wantChild 181 (.getfield 44) 3 := dop_180 (dn_w dw133_11 5 rfl) rfl
theorem dX9_wantChild_184 : DE cX9_wantChild 184 (.aload_n 0) 1 := dop_42 (dn_w dw133_11 8 rfl)
theorem dX9_wantChild_185 : DE cX9_wantChild 185 (.getfield 158) 3 := dop_180 (dn_w dw133_11 9 rfl) rfl
theorem dX9_wantChild_188 : DE cX9_wantChild 188 (.iconst 0) 1 := dop_3 (dn_w dw133_11 12 rfl)
theorem dX9_wantChild_189 : DE cX9_wantChild 189 (.iastore) 1 := dop_79 (dn_w dw133_11 13 rfl)
theorem dX9_wantChild_190 : DE cX9_wantChild 190 (.aload_n 0) 1 := dop_42 (dn_w dw133_11 14 rfl)
theorem dX9_wantChild_191 : DE cX9_wantChild 191 (.dup) 1 := dop_89 (dn_w dw133_11 15 rfl)
theorem dX9_wantChild_192 : DE cX9_wantChild 192 (.getfield 158) 3 := dop_180 (dn_w dw133_12 0 rfl) rfl
theorem dX9_wantChild_195 : DE cX9_wantChild 195 (.iconst 1) 1 := dop_4 (dn_w dw133_12 3 rfl)
theorem dX9_wantChild_196 : DE cX9_wantChild 196 (.iadd) 1 := dop_96 (dn_w dw133_12 4 rfl)
theorem dX9_wantChild_197 : DE cX9_wantChild 197 (.putfield 158) 3 := dop_181 (dn_w dw133_12 5 rfl) rfl
theorem dX9_wantChild_200 : DE cX9_wantChild 200 (.return_) 1 := dop_177 (dn_w dw133_12 8 rfl)
noncomputable def dt134_2 : List Nat := 177 :: []
noncomputable def dt134_1 : List Nat := 46 :: 182 :: 0 :: 161 :: 61 :: 42 :: 182 :: 0 :: 169 :: 42 :: 180 :: 0 :: 50 :: 27 :: 28 :: 79 :: dt134_2
noncomputable def dt134_0 : List Nat := 42 :: 182 :: 0 :: 152 :: 42 :: 42 :: 180 :: 0 :: 28 :: 27 :: 46 :: 42 :: 180 :: 0 :: 31 :: 27 :: dt134_1
theorem dw134_0 : dn cX9_wantLaw 0 = dt134_0 := by decide +kernel
theorem dw134_1 : dn cX9_wantLaw 16 = dt134_1 := dn_w dw134_0 16 rfl
theorem dw134_2 : dn cX9_wantLaw 32 = dt134_2 := dn_w dw134_1 16 rfl
theorem dX9_wantLaw_0 : DE cX9_wantLaw 0 (.aload_n 0) 1 := dop_42 (dn_w dw134_0 0 rfl)
theorem dX9_wantLaw_1 : DE cX9_wantLaw 1 (.invokevirtual 152) 3 := dop_182 (dn_w dw134_0 1 rfl) rfl
theorem dX9_wantLaw_4 : DE cX9_wantLaw 4 (.aload_n 0) 1 := dop_42 (dn_w dw134_0 4 rfl)
theorem dX9_wantLaw_5 : DE cX9_wantLaw 5 (.aload_n 0) 1 := dop_42 (dn_w dw134_0 5 rfl)
theorem dX9_wantLaw_6 : DE cX9_wantLaw 6 (.getfield 28) 3 := dop_180 (dn_w dw134_0 6 rfl) rfl
theorem dX9_wantLaw_9 : DE cX9_wantLaw 9 (.iload_n 1) 1 := dop_27 (dn_w dw134_0 9 rfl)
theorem dX9_wantLaw_10 : DE cX9_wantLaw 10 (.iaload) 1 := dop_46 (dn_w dw134_0 10 rfl)
theorem dX9_wantLaw_11 : DE cX9_wantLaw 11 (.aload_n 0) 1 := dop_42 (dn_w dw134_0 11 rfl)
theorem dX9_wantLaw_12 : DE cX9_wantLaw 12 (.getfield 31) 3 := dop_180 (dn_w dw134_0 12 rfl) rfl
theorem dX9_wantLaw_15 : DE cX9_wantLaw 15 (.iload_n 1) 1 := dop_27 (dn_w dw134_0 15 rfl)
theorem dX9_wantLaw_16 : DE cX9_wantLaw 16 (.iaload) 1 := dop_46 (dn_w dw134_1 0 rfl)
theorem dX9_wantLaw_17 : DE cX9_wantLaw 17 (.invokevirtual 161) 3 := dop_182 (dn_w dw134_1 1 rfl) rfl
theorem dX9_wantLaw_20 : DE cX9_wantLaw 20 (.istore_n 2) 1 := dop_61 (dn_w dw134_1 4 rfl)
theorem dX9_wantLaw_21 : DE cX9_wantLaw 21 (.aload_n 0) 1 := dop_42 (dn_w dw134_1 5 rfl)
theorem dX9_wantLaw_22 : DE cX9_wantLaw 22 (.invokevirtual 169) 3 := dop_182 (dn_w dw134_1 6 rfl) rfl
theorem dX9_wantLaw_25 : DE cX9_wantLaw 25 (.aload_n 0) 1 := dop_42 (dn_w dw134_1 9 rfl)
theorem dX9_wantLaw_26 : DE cX9_wantLaw 26 (.getfield 50) 3 := dop_180 (dn_w dw134_1 10 rfl) rfl
theorem dX9_wantLaw_29 : DE cX9_wantLaw 29 (.iload_n 1) 1 := dop_27 (dn_w dw134_1 13 rfl)
theorem dX9_wantLaw_30 : DE cX9_wantLaw 30 (.iload_n 2) 1 := dop_28 (dn_w dw134_1 14 rfl)
theorem dX9_wantLaw_31 : DE cX9_wantLaw 31 (.iastore) 1 := dop_79 (dn_w dw134_1 15 rfl)
theorem dX9_wantLaw_32 : DE cX9_wantLaw 32 (.return_) 1 := dop_177 (dn_w dw134_2 0 rfl)
noncomputable def dt135_12 : List Nat := 42 :: 3 :: 181 :: 0 :: 148 :: 177 :: []
noncomputable def dt135_11 : List Nat := 0 :: 194 :: 182 :: 0 :: 134 :: 153 :: 0 :: 11 :: 42 :: 4 :: 182 :: 0 :: 191 :: 167 :: 0 :: 8 :: dt135_12
noncomputable def dt135_10 : List Nat := 182 :: 0 :: 134 :: 153 :: 0 :: 11 :: 42 :: 3 :: 182 :: 0 :: 191 :: 167 :: 0 :: 26 :: 42 :: 20 :: dt135_11
noncomputable def dt135_9 : List Nat := 0 :: 161 :: 181 :: 0 :: 186 :: 42 :: 182 :: 0 :: 169 :: 167 :: 0 :: 44 :: 42 :: 20 :: 0 :: 189 :: dt135_10
noncomputable def dt135_8 : List Nat := 182 :: 0 :: 134 :: 153 :: 0 :: 25 :: 42 :: 182 :: 0 :: 152 :: 42 :: 42 :: 3 :: 16 :: 40 :: 182 :: dt135_9
noncomputable def dt135_7 : List Nat := 0 :: 10 :: 42 :: 180 :: 0 :: 44 :: 27 :: 28 :: 79 :: 167 :: 0 :: 76 :: 42 :: 20 :: 0 :: 184 :: dt135_8
noncomputable def dt135_6 : List Nat := 3 :: 16 :: 20 :: 182 :: 0 :: 161 :: 61 :: 42 :: 182 :: 0 :: 169 :: 42 :: 180 :: 0 :: 148 :: 153 :: dt135_7
noncomputable def dt135_5 : List Nat := 182 :: 0 :: 152 :: 42 :: 3 :: 42 :: 180 :: 0 :: 158 :: 4 :: 100 :: 182 :: 0 :: 161 :: 60 :: 42 :: dt135_6
noncomputable def dt135_4 : List Nat := 28 :: 79 :: 167 :: 0 :: 131 :: 42 :: 20 :: 0 :: 182 :: 182 :: 0 :: 134 :: 153 :: 0 :: 48 :: 42 :: dt135_5
noncomputable def dt135_3 : List Nat := 42 :: 182 :: 0 :: 169 :: 42 :: 180 :: 0 :: 148 :: 153 :: 0 :: 10 :: 42 :: 180 :: 0 :: 47 :: 27 :: dt135_4
noncomputable def dt135_2 : List Nat := 42 :: 3 :: 16 :: 39 :: 182 :: 0 :: 161 :: 60 :: 42 :: 3 :: 16 :: 31 :: 182 :: 0 :: 161 :: 61 :: dt135_3
noncomputable def dt135_1 : List Nat := 0 :: 182 :: 42 :: 20 :: 0 :: 180 :: 182 :: 0 :: 134 :: 153 :: 0 :: 44 :: 42 :: 182 :: 0 :: 152 :: dt135_2
noncomputable def dt135_0 : List Nat := 42 :: 182 :: 0 :: 172 :: 155 :: 0 :: 14 :: 42 :: 42 :: 182 :: 0 :: 172 :: 182 :: 0 :: 176 :: 167 :: dt135_1
theorem dw135_0 : dn cX9_wantClause 0 = dt135_0 := by decide +kernel
theorem dw135_1 : dn cX9_wantClause 16 = dt135_1 := dn_w dw135_0 16 rfl
theorem dw135_2 : dn cX9_wantClause 32 = dt135_2 := dn_w dw135_1 16 rfl
theorem dw135_3 : dn cX9_wantClause 48 = dt135_3 := dn_w dw135_2 16 rfl
theorem dw135_4 : dn cX9_wantClause 64 = dt135_4 := dn_w dw135_3 16 rfl
theorem dw135_5 : dn cX9_wantClause 80 = dt135_5 := dn_w dw135_4 16 rfl
theorem dw135_6 : dn cX9_wantClause 96 = dt135_6 := dn_w dw135_5 16 rfl
theorem dw135_7 : dn cX9_wantClause 112 = dt135_7 := dn_w dw135_6 16 rfl
theorem dw135_8 : dn cX9_wantClause 128 = dt135_8 := dn_w dw135_7 16 rfl
theorem dw135_9 : dn cX9_wantClause 144 = dt135_9 := dn_w dw135_8 16 rfl
theorem dw135_10 : dn cX9_wantClause 160 = dt135_10 := dn_w dw135_9 16 rfl
theorem dw135_11 : dn cX9_wantClause 176 = dt135_11 := dn_w dw135_10 16 rfl
theorem dw135_12 : dn cX9_wantClause 192 = dt135_12 := dn_w dw135_11 16 rfl
theorem dX9_wantClause_0 : DE cX9_wantClause 0 (.aload_n 0) 1 := dop_42 (dn_w dw135_0 0 rfl)
theorem dX9_wantClause_1 : DE cX9_wantClause 1 (.invokevirtual 172) 3 := dop_182 (dn_w dw135_0 1 rfl) rfl
theorem dX9_wantClause_4 : DE cX9_wantClause 4 (.ifCond .lt 14) 3 := dop_155 (dn_w dw135_0 4 rfl) rfl
theorem dX9_wantClause_7 : DE cX9_wantClause 7 (.aload_n 0) 1 := dop_42 (dn_w dw135_0 7 rfl)
theorem dX9_wantClause_8 : DE cX9_wantClause 8 (.aload_n 0) 1 := dop_42 (dn_w dw135_0 8 rfl)
theorem dX9_wantClause_9 : DE cX9_wantClause 9 (.invokevirtual 172) 3 := dop_182 (dn_w dw135_0 9 rfl) rfl
theorem dX9_wantClause_12 : DE cX9_wantClause 12 (.invokevirtual 176) 3 := dop_182 (dn_w dw135_0 12 rfl) rfl
theorem dX9_wantClause_15 : DE cX9_wantClause 15 (.goto 182) 3 := dop_167 (dn_w dw135_0 15 rfl) rfl
theorem dX9_wantClause_18 : DE cX9_wantClause 18 (.aload_n 0) 1 := dop_42 (dn_w dw135_1 2 rfl)
theorem dX9_wantClause_19 : DE cX9_wantClause 19 (.ldc2_w 180) 3 := dop_20 (dn_w dw135_1 3 rfl) rfl
theorem dX9_wantClause_22 : DE cX9_wantClause 22 (.invokevirtual 134) 3 := dop_182 (dn_w dw135_1 6 rfl) rfl
theorem dX9_wantClause_25 : DE cX9_wantClause 25 (.ifCond .eq 44) 3 := dop_153 (dn_w dw135_1 9 rfl) rfl
theorem dX9_wantClause_28 : DE cX9_wantClause 28 (.aload_n 0) 1 := dop_42 (dn_w dw135_1 12 rfl)
theorem dX9_wantClause_29 : DE cX9_wantClause 29 (.invokevirtual 152) 3 := dop_182 (dn_w dw135_1 13 rfl) rfl
theorem dX9_wantClause_32 : DE cX9_wantClause 32 (.aload_n 0) 1 := dop_42 (dn_w dw135_2 0 rfl)
theorem dX9_wantClause_33 : DE cX9_wantClause 33 (.iconst 0) 1 := dop_3 (dn_w dw135_2 1 rfl)
theorem dX9_wantClause_34 : DE cX9_wantClause 34 (.bipush 39) 2 := dop_16 (dn_w dw135_2 2 rfl) rfl
theorem dX9_wantClause_36 : DE cX9_wantClause 36 (.invokevirtual 161) 3 := dop_182 (dn_w dw135_2 4 rfl) rfl
theorem dX9_wantClause_39 : DE cX9_wantClause 39 (.istore_n 1) 1 := dop_60 (dn_w dw135_2 7 rfl)
theorem dX9_wantClause_40 : DE cX9_wantClause 40 (.aload_n 0) 1 := dop_42 (dn_w dw135_2 8 rfl)
theorem dX9_wantClause_41 : DE cX9_wantClause 41 (.iconst 0) 1 := dop_3 (dn_w dw135_2 9 rfl)
theorem dX9_wantClause_42 : DE cX9_wantClause 42 (.bipush 31) 2 := dop_16 (dn_w dw135_2 10 rfl) rfl
theorem dX9_wantClause_44 : DE cX9_wantClause 44 (.invokevirtual 161) 3 := dop_182 (dn_w dw135_2 12 rfl) rfl
theorem dX9_wantClause_47 : DE cX9_wantClause 47 (.istore_n 2) 1 := dop_61 (dn_w dw135_2 15 rfl)
theorem dX9_wantClause_48 : DE cX9_wantClause 48 (.aload_n 0) 1 := dop_42 (dn_w dw135_3 0 rfl)
theorem dX9_wantClause_49 : DE cX9_wantClause 49 (.invokevirtual 169) 3 := dop_182 (dn_w dw135_3 1 rfl) rfl
theorem dX9_wantClause_52 : DE cX9_wantClause 52 (.aload_n 0) 1 := dop_42 (dn_w dw135_3 4 rfl)
theorem dX9_wantClause_53 : DE cX9_wantClause 53 (.getfield 148) 3 := dop_180 (dn_w dw135_3 5 rfl) rfl
theorem dX9_wantClause_56 : DE cX9_wantClause 56 (.ifCond .eq 10) 3 := dop_153 (dn_w dw135_3 8 rfl) rfl
theorem dX9_wantClause_59 : DE cX9_wantClause 59 (.aload_n 0) 1 := dop_42 (dn_w dw135_3 11 rfl)
theorem dX9_wantClause_60 : DE cX9_wantClause 60 (.getfield 47) 3 := dop_180 (dn_w dw135_3 12 rfl) rfl
theorem dX9_wantClause_63 : DE cX9_wantClause 63 (.iload_n 1) 1 := dop_27 (dn_w dw135_3 15 rfl)
theorem dX9_wantClause_64 : DE cX9_wantClause 64 (.iload_n 2) 1 := dop_28 (dn_w dw135_4 0 rfl)
theorem dX9_wantClause_65 : DE cX9_wantClause 65 (.iastore) 1 := dop_79 (dn_w dw135_4 1 rfl)
theorem dX9_wantClause_66 : DE cX9_wantClause 66 (.goto 131) 3 := dop_167 (dn_w dw135_4 2 rfl) rfl
theorem dX9_wantClause_69 : DE cX9_wantClause 69 (.aload_n 0) 1 := dop_42 (dn_w dw135_4 5 rfl)
theorem dX9_wantClause_70 : DE cX9_wantClause 70 (.ldc2_w 182) 3 := dop_20 (dn_w dw135_4 6 rfl) rfl
theorem dX9_wantClause_73 : DE cX9_wantClause 73 (.invokevirtual 134) 3 := dop_182 (dn_w dw135_4 9 rfl) rfl
theorem dX9_wantClause_76 : DE cX9_wantClause 76 (.ifCond .eq 48) 3 := dop_153 (dn_w dw135_4 12 rfl) rfl
theorem dX9_wantClause_79 : DE cX9_wantClause 79 (.aload_n 0) 1 := dop_42 (dn_w dw135_4 15 rfl)
theorem dX9_wantClause_80 : DE cX9_wantClause 80 (.invokevirtual 152) 3 := dop_182 (dn_w dw135_5 0 rfl) rfl
theorem dX9_wantClause_83 : DE cX9_wantClause 83 (.aload_n 0) 1 := dop_42 (dn_w dw135_5 3 rfl)
theorem dX9_wantClause_84 : DE cX9_wantClause 84 (.iconst 0) 1 := dop_3 (dn_w dw135_5 4 rfl)
theorem dX9_wantClause_85 : DE cX9_wantClause 85 (.aload_n 0) 1 := dop_42 (dn_w dw135_5 5 rfl)
theorem dX9_wantClause_86 : DE cX9_wantClause 86 (.getfield 158) 3 := dop_180 (dn_w dw135_5 6 rfl) rfl
theorem dX9_wantClause_89 : DE cX9_wantClause 89 (.iconst 1) 1 := dop_4 (dn_w dw135_5 9 rfl)
theorem dX9_wantClause_90 : DE cX9_wantClause 90 (.isub) 1 := dop_100 (dn_w dw135_5 10 rfl)
theorem dX9_wantClause_91 : DE cX9_wantClause 91 (.invokevirtual 161) 3 := dop_182 (dn_w dw135_5 11 rfl) rfl
theorem dX9_wantClause_94 : DE cX9_wantClause 94 (.istore_n 1) 1 := dop_60 (dn_w dw135_5 14 rfl)
theorem dX9_wantClause_95 : DE cX9_wantClause 95 (.aload_n 0) 1 := dop_42 (dn_w dw135_5 15 rfl)
theorem dX9_wantClause_96 : DE cX9_wantClause 96 (.iconst 0) 1 := dop_3 (dn_w dw135_6 0 rfl)
theorem dX9_wantClause_97 : DE cX9_wantClause 97 (.bipush 20) 2 := dop_16 (dn_w dw135_6 1 rfl) rfl
theorem dX9_wantClause_99 : DE cX9_wantClause 99 (.invokevirtual 161) 3 := dop_182 (dn_w dw135_6 3 rfl) rfl
theorem dX9_wantClause_102 : DE cX9_wantClause 102 (.istore_n 2) 1 := dop_61 (dn_w dw135_6 6 rfl)
theorem dX9_wantClause_103 : DE cX9_wantClause 103 (.aload_n 0) 1 := dop_42 (dn_w dw135_6 7 rfl)
theorem dX9_wantClause_104 : DE cX9_wantClause 104 (.invokevirtual 169) 3 := dop_182 (dn_w dw135_6 8 rfl) rfl
theorem dX9_wantClause_107 : DE cX9_wantClause 107 (.aload_n 0) 1 := dop_42 (dn_w dw135_6 11 rfl)
theorem dX9_wantClause_108 : DE cX9_wantClause 108 (.getfield 148) 3 := dop_180 (dn_w dw135_6 12 rfl) rfl
theorem dX9_wantClause_111 : DE cX9_wantClause 111 (.ifCond .eq 10) 3 := dop_153 (dn_w dw135_6 15 rfl) rfl
theorem dX9_wantClause_114 : DE cX9_wantClause 114 (.aload_n 0) 1 := dop_42 (dn_w dw135_7 2 rfl)
theorem dX9_wantClause_115 : DE cX9_wantClause 115 (.getfield 44) 3 := dop_180 (dn_w dw135_7 3 rfl) rfl
theorem dX9_wantClause_118 : DE cX9_wantClause 118 (.iload_n 1) 1 := dop_27 (dn_w dw135_7 6 rfl)
theorem dX9_wantClause_119 : DE cX9_wantClause 119 (.iload_n 2) 1 := dop_28 (dn_w dw135_7 7 rfl)
theorem dX9_wantClause_120 : DE cX9_wantClause 120 (.iastore) 1 := dop_79 (dn_w dw135_7 8 rfl)
theorem dX9_wantClause_121 : DE cX9_wantClause 121 (.goto 76) 3 := dop_167 (dn_w dw135_7 9 rfl) rfl
theorem dX9_wantClause_124 : DE cX9_wantClause 124 (.aload_n 0) 1 := dop_42 (dn_w dw135_7 12 rfl)
theorem dX9_wantClause_125 : DE cX9_wantClause 125 (.ldc2_w 184) 3 := dop_20 (dn_w dw135_7 13 rfl) rfl
theorem dX9_wantClause_128 : DE cX9_wantClause 128 (.invokevirtual 134) 3 := dop_182 (dn_w dw135_8 0 rfl) rfl
theorem dX9_wantClause_131 : DE cX9_wantClause 131 (.ifCond .eq 25) 3 := dop_153 (dn_w dw135_8 3 rfl) rfl
theorem dX9_wantClause_134 : DE cX9_wantClause 134 (.aload_n 0) 1 := dop_42 (dn_w dw135_8 6 rfl)
theorem dX9_wantClause_135 : DE cX9_wantClause 135 (.invokevirtual 152) 3 := dop_182 (dn_w dw135_8 7 rfl) rfl
theorem dX9_wantClause_138 : DE cX9_wantClause 138 (.aload_n 0) 1 := dop_42 (dn_w dw135_8 10 rfl)
theorem dX9_wantClause_139 : DE cX9_wantClause 139 (.aload_n 0) 1 := dop_42 (dn_w dw135_8 11 rfl)
theorem dX9_wantClause_140 : DE cX9_wantClause 140 (.iconst 0) 1 := dop_3 (dn_w dw135_8 12 rfl)
theorem dX9_wantClause_141 : DE cX9_wantClause 141 (.bipush 40) 2 := dop_16 (dn_w dw135_8 13 rfl) rfl
theorem dX9_wantClause_143 : DE cX9_wantClause 143 (.invokevirtual 161) 3 := dop_182 (dn_w dw135_8 15 rfl) rfl
theorem dX9_wantClause_146 : DE cX9_wantClause 146 (.putfield 186) 3 := dop_181 (dn_w dw135_9 2 rfl) rfl
theorem dX9_wantClause_149 : DE cX9_wantClause 149 (.aload_n 0) 1 := dop_42 (dn_w dw135_9 5 rfl)
theorem dX9_wantClause_150 : DE cX9_wantClause 150 (.invokevirtual 169) 3 := dop_182 (dn_w dw135_9 6 rfl) rfl
theorem dX9_wantClause_153 : DE cX9_wantClause 153 (.goto 44) 3 := dop_167 (dn_w dw135_9 9 rfl) rfl
theorem dX9_wantClause_156 : DE cX9_wantClause 156 (.aload_n 0) 1 := dop_42 (dn_w dw135_9 12 rfl)
theorem dX9_wantClause_157 : DE cX9_wantClause 157 (.ldc2_w 189) 3 := dop_20 (dn_w dw135_9 13 rfl) rfl
theorem dX9_wantClause_160 : DE cX9_wantClause 160 (.invokevirtual 134) 3 := dop_182 (dn_w dw135_10 0 rfl) rfl
theorem dX9_wantClause_163 : DE cX9_wantClause 163 (.ifCond .eq 11) 3 := dop_153 (dn_w dw135_10 3 rfl) rfl
theorem dX9_wantClause_166 : DE cX9_wantClause 166 (.aload_n 0) 1 := dop_42 (dn_w dw135_10 6 rfl)
theorem dX9_wantClause_167 : DE cX9_wantClause 167 (.iconst 0) 1 := dop_3 (dn_w dw135_10 7 rfl)
theorem dX9_wantClause_168 : DE cX9_wantClause 168 (.invokevirtual 191) 3 := dop_182 (dn_w dw135_10 8 rfl) rfl
theorem dX9_wantClause_171 : DE cX9_wantClause 171 (.goto 26) 3 := dop_167 (dn_w dw135_10 11 rfl) rfl
theorem dX9_wantClause_174 : DE cX9_wantClause 174 (.aload_n 0) 1 := dop_42 (dn_w dw135_10 14 rfl)
theorem dX9_wantClause_175 : DE cX9_wantClause 175 (.ldc2_w 194) 3 := dop_20 (dn_w dw135_10 15 rfl) rfl
theorem dX9_wantClause_178 : DE cX9_wantClause 178 (.invokevirtual 134) 3 := dop_182 (dn_w dw135_11 2 rfl) rfl
theorem dX9_wantClause_181 : DE cX9_wantClause 181 (.ifCond .eq 11) 3 := dop_153 (dn_w dw135_11 5 rfl) rfl
theorem dX9_wantClause_184 : DE cX9_wantClause 184 (.aload_n 0) 1 := dop_42 (dn_w dw135_11 8 rfl)
theorem dX9_wantClause_185 : DE cX9_wantClause 185 (.iconst 1) 1 := dop_4 (dn_w dw135_11 9 rfl)
theorem dX9_wantClause_186 : DE cX9_wantClause 186 (.invokevirtual 191) 3 := dop_182 (dn_w dw135_11 10 rfl) rfl
theorem dX9_wantClause_189 : DE cX9_wantClause 189 (.goto 8) 3 := dop_167 (dn_w dw135_11 13 rfl) rfl
theorem dX9_wantClause_192 : DE cX9_wantClause 192 (.aload_n 0) 1 := dop_42 (dn_w dw135_12 0 rfl)
theorem dX9_wantClause_193 : DE cX9_wantClause 193 (.iconst 0) 1 := dop_3 (dn_w dw135_12 1 rfl)
theorem dX9_wantClause_194 : DE cX9_wantClause 194 (.putfield 148) 3 := dop_181 (dn_w dw135_12 2 rfl) rfl
theorem dX9_wantClause_197 : DE cX9_wantClause 197 (.return_) 1 := dop_177 (dn_w dw135_12 5 rfl)
noncomputable def dt136_17 : List Nat := 3 :: 181 :: 0 :: 199 :: 42 :: 180 :: 0 :: 91 :: 172 :: []
noncomputable def dt136_16 : List Nat := 25 :: 27 :: 42 :: 180 :: 0 :: 50 :: 27 :: 46 :: 79 :: 132 :: 1 :: 1 :: 167 :: 255 :: 236 :: 42 :: dt136_17
noncomputable def dt136_15 : List Nat := 132 :: 1 :: 1 :: 167 :: 255 :: 221 :: 3 :: 60 :: 27 :: 7 :: 162 :: 0 :: 21 :: 42 :: 180 :: 0 :: dt136_16
noncomputable def dt136_14 : List Nat := 46 :: 79 :: 42 :: 180 :: 0 :: 19 :: 27 :: 3 :: 79 :: 42 :: 180 :: 0 :: 22 :: 27 :: 3 :: 79 :: dt136_15
noncomputable def dt136_13 : List Nat := 27 :: 16 :: 40 :: 162 :: 0 :: 35 :: 42 :: 180 :: 0 :: 16 :: 27 :: 42 :: 180 :: 0 :: 47 :: 27 :: dt136_14
noncomputable def dt136_12 : List Nat := 96 :: 42 :: 180 :: 0 :: 44 :: 27 :: 46 :: 79 :: 132 :: 1 :: 1 :: 167 :: 255 :: 231 :: 3 :: 60 :: dt136_13
noncomputable def dt136_11 : List Nat := 3 :: 60 :: 27 :: 42 :: 180 :: 0 :: 91 :: 162 :: 0 :: 23 :: 42 :: 180 :: 0 :: 13 :: 4 :: 27 :: dt136_12
noncomputable def dt136_10 : List Nat := 132 :: 1 :: 1 :: 167 :: 255 :: 240 :: 42 :: 180 :: 0 :: 13 :: 3 :: 42 :: 180 :: 0 :: 186 :: 79 :: dt136_11
noncomputable def dt136_9 : List Nat := 235 :: 3 :: 60 :: 27 :: 16 :: 25 :: 162 :: 0 :: 16 :: 42 :: 180 :: 0 :: 13 :: 27 :: 3 :: 79 :: dt136_10
noncomputable def dt136_8 : List Nat := 180 :: 0 :: 7 :: 27 :: 42 :: 180 :: 0 :: 41 :: 27 :: 46 :: 79 :: 132 :: 1 :: 1 :: 167 :: 255 :: dt136_9
noncomputable def dt136_7 : List Nat := 42 :: 180 :: 0 :: 158 :: 181 :: 0 :: 91 :: 3 :: 60 :: 27 :: 16 :: 32 :: 162 :: 0 :: 21 :: 42 :: dt136_8
noncomputable def dt136_6 : List Nat := 42 :: 180 :: 0 :: 148 :: 154 :: 0 :: 11 :: 16 :: 156 :: 42 :: 180 :: 0 :: 102 :: 100 :: 172 :: 42 :: dt136_7
noncomputable def dt136_5 : List Nat := 116 :: 153 :: 0 :: 10 :: 42 :: 182 :: 0 :: 196 :: 167 :: 255 :: 238 :: 42 :: 3 :: 181 :: 0 :: 94 :: dt136_6
noncomputable def dt136_4 : List Nat := 255 :: 236 :: 42 :: 182 :: 0 :: 152 :: 42 :: 180 :: 0 :: 148 :: 153 :: 0 :: 17 :: 42 :: 180 :: 0 :: dt136_5
noncomputable def dt136_3 : List Nat := 42 :: 180 :: 0 :: 50 :: 27 :: 42 :: 180 :: 0 :: 25 :: 27 :: 46 :: 79 :: 132 :: 1 :: 1 :: 167 :: dt136_4
noncomputable def dt136_2 : List Nat := 27 :: 3 :: 79 :: 132 :: 1 :: 1 :: 167 :: 255 :: 240 :: 3 :: 60 :: 27 :: 7 :: 162 :: 0 :: 21 :: dt136_3
noncomputable def dt136_1 : List Nat := 3 :: 181 :: 0 :: 186 :: 3 :: 60 :: 27 :: 16 :: 40 :: 162 :: 0 :: 16 :: 42 :: 180 :: 0 :: 47 :: dt136_2
noncomputable def dt136_0 : List Nat := 42 :: 3 :: 181 :: 0 :: 99 :: 42 :: 4 :: 181 :: 0 :: 148 :: 42 :: 3 :: 181 :: 0 :: 158 :: 42 :: dt136_1
theorem dw136_0 : dn cX9_school 0 = dt136_0 := by decide +kernel
theorem dw136_1 : dn cX9_school 16 = dt136_1 := dn_w dw136_0 16 rfl
theorem dw136_2 : dn cX9_school 32 = dt136_2 := dn_w dw136_1 16 rfl
theorem dw136_3 : dn cX9_school 48 = dt136_3 := dn_w dw136_2 16 rfl
theorem dw136_4 : dn cX9_school 64 = dt136_4 := dn_w dw136_3 16 rfl
theorem dw136_5 : dn cX9_school 80 = dt136_5 := dn_w dw136_4 16 rfl
theorem dw136_6 : dn cX9_school 96 = dt136_6 := dn_w dw136_5 16 rfl
theorem dw136_7 : dn cX9_school 112 = dt136_7 := dn_w dw136_6 16 rfl
theorem dw136_8 : dn cX9_school 128 = dt136_8 := dn_w dw136_7 16 rfl
theorem dw136_9 : dn cX9_school 144 = dt136_9 := dn_w dw136_8 16 rfl
theorem dw136_10 : dn cX9_school 160 = dt136_10 := dn_w dw136_9 16 rfl
theorem dw136_11 : dn cX9_school 176 = dt136_11 := dn_w dw136_10 16 rfl
theorem dw136_12 : dn cX9_school 192 = dt136_12 := dn_w dw136_11 16 rfl
theorem dw136_13 : dn cX9_school 208 = dt136_13 := dn_w dw136_12 16 rfl
theorem dw136_14 : dn cX9_school 224 = dt136_14 := dn_w dw136_13 16 rfl
theorem dw136_15 : dn cX9_school 240 = dt136_15 := dn_w dw136_14 16 rfl
theorem dw136_16 : dn cX9_school 256 = dt136_16 := dn_w dw136_15 16 rfl
theorem dw136_17 : dn cX9_school 272 = dt136_17 := dn_w dw136_16 16 rfl
theorem dX9_school_0 : DE cX9_school 0 (.aload_n 0) 1 := dop_42 (dn_w dw136_0 0 rfl)
theorem dX9_school_1 : DE cX9_school 1 (.iconst 0) 1 := dop_3 (dn_w dw136_0 1 rfl)
theorem dX9_school_2 : DE cX9_school 2 (.putfield 99) 3 := dop_181 (dn_w dw136_0 2 rfl) rfl
theorem dX9_school_5 : DE cX9_school 5 (.aload_n 0) 1 := dop_42 (dn_w dw136_0 5 rfl)
theorem dX9_school_6 : DE cX9_school 6 (.iconst 1) 1 := dop_4 (dn_w dw136_0 6 rfl)
theorem dX9_school_7 : DE cX9_school 7 (.putfield 148) 3 := dop_181 (dn_w dw136_0 7 rfl) rfl
theorem dX9_school_10 : DE cX9_school 10 (.aload_n 0) 1 := dop_42 (dn_w dw136_0 10 rfl)
theorem dX9_school_11 : DE cX9_school 11 (.iconst 0) 1 := dop_3 (dn_w dw136_0 11 rfl)
theorem dX9_school_12 : DE cX9_school 12 (.putfield 158) 3 := dop_181 (dn_w dw136_0 12 rfl) rfl
theorem dX9_school_15 : DE cX9_school 15 (.aload_n 0) 1 := dop_42 (dn_w dw136_0 15 rfl)
theorem dX9_school_16 : DE cX9_school 16 (.iconst 0) 1 := dop_3 (dn_w dw136_1 0 rfl)
theorem dX9_school_17 : DE cX9_school 17 (.putfield 186) 3 := dop_181 (dn_w dw136_1 1 rfl) rfl
theorem dX9_school_20 : DE cX9_school 20 (.iconst 0) 1 := dop_3 (dn_w dw136_1 4 rfl)
theorem dX9_school_21 : DE cX9_school 21 (.istore_n 1) 1 := dop_60 (dn_w dw136_1 5 rfl)
theorem dX9_school_22 : DE cX9_school 22 (.iload_n 1) 1 := dop_27 (dn_w dw136_1 6 rfl)
theorem dX9_school_23 : DE cX9_school 23 (.bipush 40) 2 := dop_16 (dn_w dw136_1 7 rfl) rfl
theorem dX9_school_25 : DE cX9_school 25 (.if_icmp .ge 16) 3 := dop_162 (dn_w dw136_1 9 rfl) rfl
theorem dX9_school_28 : DE cX9_school 28 (.aload_n 0) 1 := dop_42 (dn_w dw136_1 12 rfl)
theorem dX9_school_29 : DE cX9_school 29 (.getfield 47) 3 := dop_180 (dn_w dw136_1 13 rfl) rfl
theorem dX9_school_32 : DE cX9_school 32 (.iload_n 1) 1 := dop_27 (dn_w dw136_2 0 rfl)
theorem dX9_school_33 : DE cX9_school 33 (.iconst 0) 1 := dop_3 (dn_w dw136_2 1 rfl)
theorem dX9_school_34 : DE cX9_school 34 (.iastore) 1 := dop_79 (dn_w dw136_2 2 rfl)
theorem dX9_school_35 : DE cX9_school 35 (.iinc 1 1) 3 := dop_132 (dn_w dw136_2 3 rfl) rfl
theorem dX9_school_38 : DE cX9_school 38 (.goto (-16)) 3 := dop_167 (dn_w dw136_2 6 rfl) rfl
theorem dX9_school_41 : DE cX9_school 41 (.iconst 0) 1 := dop_3 (dn_w dw136_2 9 rfl)
theorem dX9_school_42 : DE cX9_school 42 (.istore_n 1) 1 := dop_60 (dn_w dw136_2 10 rfl)
theorem dX9_school_43 : DE cX9_school 43 (.iload_n 1) 1 := dop_27 (dn_w dw136_2 11 rfl)
theorem dX9_school_44 : DE cX9_school 44 (.iconst 4) 1 := dop_7 (dn_w dw136_2 12 rfl)
theorem dX9_school_45 : DE cX9_school 45 (.if_icmp .ge 21) 3 := dop_162 (dn_w dw136_2 13 rfl) rfl
theorem dX9_school_48 : DE cX9_school 48 (.aload_n 0) 1 := dop_42 (dn_w dw136_3 0 rfl)
theorem dX9_school_49 : DE cX9_school 49 (.getfield 50) 3 := dop_180 (dn_w dw136_3 1 rfl) rfl
theorem dX9_school_52 : DE cX9_school 52 (.iload_n 1) 1 := dop_27 (dn_w dw136_3 4 rfl)
theorem dX9_school_53 : DE cX9_school 53 (.aload_n 0) 1 := dop_42 (dn_w dw136_3 5 rfl)
theorem dX9_school_54 : DE cX9_school 54 (.getfield 25) 3 := dop_180 (dn_w dw136_3 6 rfl) rfl
theorem dX9_school_57 : DE cX9_school 57 (.iload_n 1) 1 := dop_27 (dn_w dw136_3 9 rfl)
theorem dX9_school_58 : DE cX9_school 58 (.iaload) 1 := dop_46 (dn_w dw136_3 10 rfl)
theorem dX9_school_59 : DE cX9_school 59 (.iastore) 1 := dop_79 (dn_w dw136_3 11 rfl)
theorem dX9_school_60 : DE cX9_school 60 (.iinc 1 1) 3 := dop_132 (dn_w dw136_3 12 rfl) rfl
theorem dX9_school_63 : DE cX9_school 63 (.goto (-20)) 3 := dop_167 (dn_w dw136_3 15 rfl) rfl
theorem dX9_school_66 : DE cX9_school 66 (.aload_n 0) 1 := dop_42 (dn_w dw136_4 2 rfl)
theorem dX9_school_67 : DE cX9_school 67 (.invokevirtual 152) 3 := dop_182 (dn_w dw136_4 3 rfl) rfl
theorem dX9_school_70 : DE cX9_school 70 (.aload_n 0) 1 := dop_42 (dn_w dw136_4 6 rfl)
theorem dX9_school_71 : DE cX9_school 71 (.getfield 148) 3 := dop_180 (dn_w dw136_4 7 rfl) rfl
theorem dX9_school_74 : DE cX9_school 74 (.ifCond .eq 17) 3 := dop_153 (dn_w dw136_4 10 rfl) rfl
theorem dX9_school_77 : DE cX9_school 77 (.aload_n 0) 1 := dop_42 (dn_w dw136_4 13 rfl)
theorem dX9_school_78 : DE cX9_school 78 (.getfield 116) 3 := dop_180 (dn_w dw136_4 14 rfl) rfl
theorem dX9_school_81 : DE cX9_school 81 (.ifCond .eq 10) 3 := dop_153 (dn_w dw136_5 1 rfl) rfl
theorem dX9_school_84 : DE cX9_school 84 (.aload_n 0) 1 := dop_42 (dn_w dw136_5 4 rfl)
theorem dX9_school_85 : DE cX9_school 85 (.invokevirtual 196) 3 := dop_182 (dn_w dw136_5 5 rfl) rfl
theorem dX9_school_88 : DE cX9_school 88 (.goto (-18)) 3 := dop_167 (dn_w dw136_5 8 rfl) rfl
theorem dX9_school_91 : DE cX9_school 91 (.aload_n 0) 1 := dop_42 (dn_w dw136_5 11 rfl)
theorem dX9_school_92 : DE cX9_school 92 (.iconst 0) 1 := dop_3 (dn_w dw136_5 12 rfl)
theorem dX9_school_93 : DE cX9_school 93 (.putfield 94) 3 := dop_181 (dn_w dw136_5 13 rfl) rfl
theorem dX9_school_96 : DE cX9_school 96 (.aload_n 0) 1 := dop_42 (dn_w dw136_6 0 rfl)
theorem dX9_school_97 : DE cX9_school 97 (.getfield 148) 3 := dop_180 (dn_w dw136_6 1 rfl) rfl
theorem dX9_school_100 : DE cX9_school 100 (.ifCond .ne 11) 3 := dop_154 (dn_w dw136_6 4 rfl) rfl
theorem dX9_school_103 : DE cX9_school 103 (.bipush (-100)) 2 := dop_16 (dn_w dw136_6 7 rfl) rfl
theorem dX9_school_105 : DE cX9_school 105 (.aload_n 0) 1 := dop_42 (dn_w dw136_6 9 rfl)
theorem dX9_school_106 : DE cX9_school 106 (.getfield 102) 3 := dop_180 (dn_w dw136_6 10 rfl) rfl
theorem dX9_school_109 : DE cX9_school 109 (.isub) 1 := dop_100 (dn_w dw136_6 13 rfl)
theorem dX9_school_110 : DE cX9_school 110 (.ireturn) 1 := dop_172 (dn_w dw136_6 14 rfl)
theorem dX9_school_111 : DE cX9_school 111 (.aload_n 0) 1 := dop_42 (dn_w dw136_6 15 rfl)
theorem dX9_school_112 : DE cX9_school 112 (.aload_n 0) 1 := dop_42 (dn_w dw136_7 0 rfl)
theorem dX9_school_113 : DE cX9_school 113 (.getfield 158) 3 := dop_180 (dn_w dw136_7 1 rfl) rfl
theorem dX9_school_116 : DE cX9_school 116 (.putfield 91) 3 := dop_181 (dn_w dw136_7 4 rfl) rfl
theorem dX9_school_119 : DE cX9_school 119 (.iconst 0) 1 := dop_3 (dn_w dw136_7 7 rfl)
theorem dX9_school_120 : DE cX9_school 120 (.istore_n 1) 1 := dop_60 (dn_w dw136_7 8 rfl)
theorem dX9_school_121 : DE cX9_school 121 (.iload_n 1) 1 := dop_27 (dn_w dw136_7 9 rfl)
theorem dX9_school_122 : DE cX9_school 122 (.bipush 32) 2 := dop_16 (dn_w dw136_7 10 rfl) rfl
theorem dX9_school_124 : DE cX9_school 124 (.if_icmp .ge 21) 3 := dop_162 (dn_w dw136_7 12 rfl) rfl
theorem dX9_school_127 : DE cX9_school 127 (.aload_n 0) 1 := dop_42 (dn_w dw136_7 15 rfl)
theorem dX9_school_128 : DE cX9_school 128 (.getfield 7) 3 := dop_180 (dn_w dw136_8 0 rfl) rfl
theorem dX9_school_131 : DE cX9_school 131 (.iload_n 1) 1 := dop_27 (dn_w dw136_8 3 rfl)
theorem dX9_school_132 : DE cX9_school 132 (.aload_n 0) 1 := dop_42 (dn_w dw136_8 4 rfl)
theorem dX9_school_133 : DE cX9_school 133 (.getfield 41) 3 := dop_180 (dn_w dw136_8 5 rfl) rfl
theorem dX9_school_136 : DE cX9_school 136 (.iload_n 1) 1 := dop_27 (dn_w dw136_8 8 rfl)
theorem dX9_school_137 : DE cX9_school 137 (.iaload) 1 := dop_46 (dn_w dw136_8 9 rfl)
theorem dX9_school_138 : DE cX9_school 138 (.iastore) 1 := dop_79 (dn_w dw136_8 10 rfl)
theorem dX9_school_139 : DE cX9_school 139 (.iinc 1 1) 3 := dop_132 (dn_w dw136_8 11 rfl) rfl
theorem dX9_school_142 : DE cX9_school 142 (.goto (-21)) 3 := dop_167 (dn_w dw136_8 14 rfl) rfl
theorem dX9_school_145 : DE cX9_school 145 (.iconst 0) 1 := dop_3 (dn_w dw136_9 1 rfl)
theorem dX9_school_146 : DE cX9_school 146 (.istore_n 1) 1 := dop_60 (dn_w dw136_9 2 rfl)
theorem dX9_school_147 : DE cX9_school 147 (.iload_n 1) 1 := dop_27 (dn_w dw136_9 3 rfl)
theorem dX9_school_148 : DE cX9_school 148 (.bipush 25) 2 := dop_16 (dn_w dw136_9 4 rfl) rfl
theorem dX9_school_150 : DE cX9_school 150 (.if_icmp .ge 16) 3 := dop_162 (dn_w dw136_9 6 rfl) rfl
theorem dX9_school_153 : DE cX9_school 153 (.aload_n 0) 1 := dop_42 (dn_w dw136_9 9 rfl)
theorem dX9_school_154 : DE cX9_school 154 (.getfield 13) 3 := dop_180 (dn_w dw136_9 10 rfl) rfl
theorem dX9_school_157 : DE cX9_school 157 (.iload_n 1) 1 := dop_27 (dn_w dw136_9 13 rfl)
theorem dX9_school_158 : DE cX9_school 158 (.iconst 0) 1 := dop_3 (dn_w dw136_9 14 rfl)
theorem dX9_school_159 : DE cX9_school 159 (.iastore) 1 := dop_79 (dn_w dw136_9 15 rfl)
theorem dX9_school_160 : DE cX9_school 160 (.iinc 1 1) 3 := dop_132 (dn_w dw136_10 0 rfl) rfl
theorem dX9_school_163 : DE cX9_school 163 (.goto (-16)) 3 := dop_167 (dn_w dw136_10 3 rfl) rfl
theorem dX9_school_166 : DE cX9_school 166 (.aload_n 0) 1 := dop_42 (dn_w dw136_10 6 rfl)
theorem dX9_school_167 : DE cX9_school 167 (.getfield 13) 3 := dop_180 (dn_w dw136_10 7 rfl) rfl
theorem dX9_school_170 : DE cX9_school 170 (.iconst 0) 1 := dop_3 (dn_w dw136_10 10 rfl)
theorem dX9_school_171 : DE cX9_school 171 (.aload_n 0) 1 := dop_42 (dn_w dw136_10 11 rfl)
theorem dX9_school_172 : DE cX9_school 172 (.getfield 186) 3 := dop_180 (dn_w dw136_10 12 rfl) rfl
theorem dX9_school_175 : DE cX9_school 175 (.iastore) 1 := dop_79 (dn_w dw136_10 15 rfl)
theorem dX9_school_176 : DE cX9_school 176 (.iconst 0) 1 := dop_3 (dn_w dw136_11 0 rfl)
theorem dX9_school_177 : DE cX9_school 177 (.istore_n 1) 1 := dop_60 (dn_w dw136_11 1 rfl)
theorem dX9_school_178 : DE cX9_school 178 (.iload_n 1) 1 := dop_27 (dn_w dw136_11 2 rfl)
theorem dX9_school_179 : DE cX9_school 179 (.aload_n 0) 1 := dop_42 (dn_w dw136_11 3 rfl)
theorem dX9_school_180 : DE cX9_school 180 (.getfield 91) 3 := dop_180 (dn_w dw136_11 4 rfl) rfl
theorem dX9_school_183 : DE cX9_school 183 (.if_icmp .ge 23) 3 := dop_162 (dn_w dw136_11 7 rfl) rfl
theorem dX9_school_186 : DE cX9_school 186 (.aload_n 0) 1 := dop_42 (dn_w dw136_11 10 rfl)
theorem dX9_school_187 : DE cX9_school 187 (.getfield 13) 3 := dop_180 (dn_w dw136_11 11 rfl) rfl
theorem dX9_school_190 : DE cX9_school 190 (.iconst 1) 1 := dop_4 (dn_w dw136_11 14 rfl)
theorem dX9_school_191 : DE cX9_school 191 (.iload_n 1) 1 := dop_27 (dn_w dw136_11 15 rfl)
theorem dX9_school_192 : DE cX9_school 192 (.iadd) 1 := dop_96 (dn_w dw136_12 0 rfl)
theorem dX9_school_193 : DE cX9_school 193 (.aload_n 0) 1 := dop_42 (dn_w dw136_12 1 rfl)
theorem dX9_school_194 : DE cX9_school 194 (.getfield 44) 3 := dop_180 (dn_w dw136_12 2 rfl) rfl
theorem dX9_school_197 : DE cX9_school 197 (.iload_n 1) 1 := dop_27 (dn_w dw136_12 5 rfl)
theorem dX9_school_198 : DE cX9_school 198 (.iaload) 1 := dop_46 (dn_w dw136_12 6 rfl)
theorem dX9_school_199 : DE cX9_school 199 (.iastore) 1 := dop_79 (dn_w dw136_12 7 rfl)
theorem dX9_school_200 : DE cX9_school 200 (.iinc 1 1) 3 := dop_132 (dn_w dw136_12 8 rfl) rfl
theorem dX9_school_203 : DE cX9_school 203 (.goto (-25)) 3 := dop_167 (dn_w dw136_12 11 rfl) rfl
theorem dX9_school_206 : DE cX9_school 206 (.iconst 0) 1 := dop_3 (dn_w dw136_12 14 rfl)
theorem dX9_school_207 : DE cX9_school 207 (.istore_n 1) 1 := dop_60 (dn_w dw136_12 15 rfl)
theorem dX9_school_208 : DE cX9_school 208 (.iload_n 1) 1 := dop_27 (dn_w dw136_13 0 rfl)
theorem dX9_school_209 : DE cX9_school 209 (.bipush 40) 2 := dop_16 (dn_w dw136_13 1 rfl) rfl
theorem dX9_school_211 : DE cX9_school 211 (.if_icmp .ge 35) 3 := dop_162 (dn_w dw136_13 3 rfl) rfl
theorem dX9_school_214 : DE cX9_school 214 (.aload_n 0) 1 := dop_42 (dn_w dw136_13 6 rfl)
theorem dX9_school_215 : DE cX9_school 215 (.getfield 16) 3 := dop_180 (dn_w dw136_13 7 rfl) rfl
theorem dX9_school_218 : DE cX9_school 218 (.iload_n 1) 1 := dop_27 (dn_w dw136_13 10 rfl)
theorem dX9_school_219 : DE cX9_school 219 (.aload_n 0) 1 := dop_42 (dn_w dw136_13 11 rfl)
theorem dX9_school_220 : DE cX9_school 220 (.getfield 47) 3 := dop_180 (dn_w dw136_13 12 rfl) rfl
theorem dX9_school_223 : DE cX9_school 223 (.iload_n 1) 1 := dop_27 (dn_w dw136_13 15 rfl)
theorem dX9_school_224 : DE cX9_school 224 (.iaload) 1 := dop_46 (dn_w dw136_14 0 rfl)
theorem dX9_school_225 : DE cX9_school 225 (.iastore) 1 := dop_79 (dn_w dw136_14 1 rfl)
theorem dX9_school_226 : DE cX9_school 226 (.aload_n 0) 1 := dop_42 (dn_w dw136_14 2 rfl)
theorem dX9_school_227 : DE cX9_school 227 (.getfield 19) 3 := dop_180 (dn_w dw136_14 3 rfl) rfl
theorem dX9_school_230 : DE cX9_school 230 (.iload_n 1) 1 := dop_27 (dn_w dw136_14 6 rfl)
theorem dX9_school_231 : DE cX9_school 231 (.iconst 0) 1 := dop_3 (dn_w dw136_14 7 rfl)
theorem dX9_school_232 : DE cX9_school 232 (.iastore) 1 := dop_79 (dn_w dw136_14 8 rfl)
theorem dX9_school_233 : DE cX9_school 233 (.aload_n 0) 1 := dop_42 (dn_w dw136_14 9 rfl)
theorem dX9_school_234 : DE cX9_school 234 (.getfield 22) 3 := dop_180 (dn_w dw136_14 10 rfl) rfl
theorem dX9_school_237 : DE cX9_school 237 (.iload_n 1) 1 := dop_27 (dn_w dw136_14 13 rfl)
theorem dX9_school_238 : DE cX9_school 238 (.iconst 0) 1 := dop_3 (dn_w dw136_14 14 rfl)
theorem dX9_school_239 : DE cX9_school 239 (.iastore) 1 := dop_79 (dn_w dw136_14 15 rfl)
theorem dX9_school_240 : DE cX9_school 240 (.iinc 1 1) 3 := dop_132 (dn_w dw136_15 0 rfl) rfl
theorem dX9_school_243 : DE cX9_school 243 (.goto (-35)) 3 := dop_167 (dn_w dw136_15 3 rfl) rfl
theorem dX9_school_246 : DE cX9_school 246 (.iconst 0) 1 := dop_3 (dn_w dw136_15 6 rfl)
theorem dX9_school_247 : DE cX9_school 247 (.istore_n 1) 1 := dop_60 (dn_w dw136_15 7 rfl)
theorem dX9_school_248 : DE cX9_school 248 (.iload_n 1) 1 := dop_27 (dn_w dw136_15 8 rfl)
theorem dX9_school_249 : DE cX9_school 249 (.iconst 4) 1 := dop_7 (dn_w dw136_15 9 rfl)
theorem dX9_school_250 : DE cX9_school 250 (.if_icmp .ge 21) 3 := dop_162 (dn_w dw136_15 10 rfl) rfl
theorem dX9_school_253 : DE cX9_school 253 (.aload_n 0) 1 := dop_42 (dn_w dw136_15 13 rfl)
theorem dX9_school_254 : DE cX9_school 254 (.getfield 25) 3 := dop_180 (dn_w dw136_15 14 rfl) rfl
theorem dX9_school_257 : DE cX9_school 257 (.iload_n 1) 1 := dop_27 (dn_w dw136_16 1 rfl)
theorem dX9_school_258 : DE cX9_school 258 (.aload_n 0) 1 := dop_42 (dn_w dw136_16 2 rfl)
theorem dX9_school_259 : DE cX9_school 259 (.getfield 50) 3 := dop_180 (dn_w dw136_16 3 rfl) rfl
theorem dX9_school_262 : DE cX9_school 262 (.iload_n 1) 1 := dop_27 (dn_w dw136_16 6 rfl)
theorem dX9_school_263 : DE cX9_school 263 (.iaload) 1 := dop_46 (dn_w dw136_16 7 rfl)
theorem dX9_school_264 : DE cX9_school 264 (.iastore) 1 := dop_79 (dn_w dw136_16 8 rfl)
theorem dX9_school_265 : DE cX9_school 265 (.iinc 1 1) 3 := dop_132 (dn_w dw136_16 9 rfl) rfl
theorem dX9_school_268 : DE cX9_school 268 (.goto (-20)) 3 := dop_167 (dn_w dw136_16 12 rfl) rfl
theorem dX9_school_271 : DE cX9_school 271 (.aload_n 0) 1 := dop_42 (dn_w dw136_16 15 rfl)
theorem dX9_school_272 : DE cX9_school 272 (.iconst 0) 1 := dop_3 (dn_w dw136_17 0 rfl)
theorem dX9_school_273 : DE cX9_school 273 (.putfield 199) 3 := dop_181 (dn_w dw136_17 1 rfl) rfl
theorem dX9_school_276 : DE cX9_school 276 (.aload_n 0) 1 := dop_42 (dn_w dw136_17 4 rfl)
theorem dX9_school_277 : DE cX9_school 277 (.getfield 91) 3 := dop_180 (dn_w dw136_17 5 rfl) rfl
theorem dX9_school_280 : DE cX9_school 280 (.ireturn) 1 := dop_172 (dn_w dw136_17 8 rfl)
noncomputable def dt137_9 : List Nat := 91 :: 42 :: 180 :: 0 :: 91 :: 4 :: 100 :: 172 :: []
noncomputable def dt137_8 : List Nat := 42 :: 180 :: 0 :: 91 :: 96 :: 3 :: 79 :: 42 :: 89 :: 180 :: 0 :: 91 :: 4 :: 96 :: 181 :: 0 :: dt137_9
noncomputable def dt137_7 : List Nat := 13 :: 16 :: 9 :: 42 :: 180 :: 0 :: 91 :: 96 :: 3 :: 79 :: 42 :: 180 :: 0 :: 13 :: 16 :: 17 :: dt137_8
noncomputable def dt137_6 : List Nat := 79 :: 42 :: 180 :: 0 :: 13 :: 4 :: 42 :: 180 :: 0 :: 91 :: 96 :: 3 :: 79 :: 42 :: 180 :: 0 :: dt137_7
noncomputable def dt137_5 : List Nat := 29 :: 79 :: 42 :: 180 :: 0 :: 7 :: 7 :: 42 :: 180 :: 0 :: 91 :: 104 :: 6 :: 96 :: 21 :: 4 :: dt137_6
noncomputable def dt137_4 : List Nat := 4 :: 96 :: 28 :: 79 :: 42 :: 180 :: 0 :: 7 :: 7 :: 42 :: 180 :: 0 :: 91 :: 104 :: 5 :: 96 :: dt137_5
noncomputable def dt137_3 : List Nat := 180 :: 0 :: 91 :: 104 :: 27 :: 79 :: 42 :: 180 :: 0 :: 7 :: 7 :: 42 :: 180 :: 0 :: 91 :: 104 :: dt137_4
noncomputable def dt137_2 : List Nat := 0 :: 91 :: 16 :: 8 :: 160 :: 0 :: 6 :: 16 :: 254 :: 172 :: 42 :: 180 :: 0 :: 7 :: 7 :: 42 :: dt137_3
noncomputable def dt137_1 : List Nat := 14 :: 21 :: 4 :: 3 :: 16 :: 9 :: 184 :: 0 :: 87 :: 154 :: 0 :: 5 :: 2 :: 172 :: 42 :: 180 :: dt137_2
noncomputable def dt137_0 : List Nat := 27 :: 28 :: 184 :: 0 :: 202 :: 153 :: 0 :: 23 :: 29 :: 3 :: 8 :: 184 :: 0 :: 87 :: 153 :: 0 :: dt137_1
theorem dw137_0 : dn cX9_child 0 = dt137_0 := by decide +kernel
theorem dw137_1 : dn cX9_child 16 = dt137_1 := dn_w dw137_0 16 rfl
theorem dw137_2 : dn cX9_child 32 = dt137_2 := dn_w dw137_1 16 rfl
theorem dw137_3 : dn cX9_child 48 = dt137_3 := dn_w dw137_2 16 rfl
theorem dw137_4 : dn cX9_child 64 = dt137_4 := dn_w dw137_3 16 rfl
theorem dw137_5 : dn cX9_child 80 = dt137_5 := dn_w dw137_4 16 rfl
theorem dw137_6 : dn cX9_child 96 = dt137_6 := dn_w dw137_5 16 rfl
theorem dw137_7 : dn cX9_child 112 = dt137_7 := dn_w dw137_6 16 rfl
theorem dw137_8 : dn cX9_child 128 = dt137_8 := dn_w dw137_7 16 rfl
theorem dw137_9 : dn cX9_child 144 = dt137_9 := dn_w dw137_8 16 rfl
theorem dX9_child_0 : DE cX9_child 0 (.iload_n 1) 1 := dop_27 (dn_w dw137_0 0 rfl)
theorem dX9_child_1 : DE cX9_child 1 (.iload_n 2) 1 := dop_28 (dn_w dw137_0 1 rfl)
theorem dX9_child_2 : DE cX9_child 2 (.invokestatic 202) 3 := dop_184 (dn_w dw137_0 2 rfl) rfl
theorem dX9_child_5 : DE cX9_child 5 (.ifCond .eq 23) 3 := dop_153 (dn_w dw137_0 5 rfl) rfl
theorem dX9_child_8 : DE cX9_child 8 (.iload_n 3) 1 := dop_29 (dn_w dw137_0 8 rfl)
theorem dX9_child_9 : DE cX9_child 9 (.iconst 0) 1 := dop_3 (dn_w dw137_0 9 rfl)
theorem dX9_child_10 : DE cX9_child 10 (.iconst 5) 1 := dop_8 (dn_w dw137_0 10 rfl)
theorem dX9_child_11 : DE cX9_child 11 (.invokestatic 87) 3 := dop_184 (dn_w dw137_0 11 rfl) rfl
theorem dX9_child_14 : DE cX9_child 14 (.ifCond .eq 14) 3 := dop_153 (dn_w dw137_0 14 rfl) rfl
theorem dX9_child_17 : DE cX9_child 17 (.iload 4) 2 := dop_21 (dn_w dw137_1 1 rfl)
theorem dX9_child_19 : DE cX9_child 19 (.iconst 0) 1 := dop_3 (dn_w dw137_1 3 rfl)
theorem dX9_child_20 : DE cX9_child 20 (.bipush 9) 2 := dop_16 (dn_w dw137_1 4 rfl) rfl
theorem dX9_child_22 : DE cX9_child 22 (.invokestatic 87) 3 := dop_184 (dn_w dw137_1 6 rfl) rfl
theorem dX9_child_25 : DE cX9_child 25 (.ifCond .ne 5) 3 := dop_154 (dn_w dw137_1 9 rfl) rfl
theorem dX9_child_28 : DE cX9_child 28 (.iconst (-1)) 1 := dop_2 (dn_w dw137_1 12 rfl)
theorem dX9_child_29 : DE cX9_child 29 (.ireturn) 1 := dop_172 (dn_w dw137_1 13 rfl)
theorem dX9_child_30 : DE cX9_child 30 (.aload_n 0) 1 := dop_42 (dn_w dw137_1 14 rfl)
theorem dX9_child_31 : DE cX9_child 31 (.getfield 91) 3 := dop_180 (dn_w dw137_1 15 rfl) rfl
theorem dX9_child_34 : DE cX9_child 34 (.bipush 8) 2 := dop_16 (dn_w dw137_2 2 rfl) rfl
theorem dX9_child_36 : DE cX9_child 36 (.if_icmp .ne 6) 3 := dop_160 (dn_w dw137_2 4 rfl) rfl
theorem dX9_child_39 : DE cX9_child 39 (.bipush (-2)) 2 := dop_16 (dn_w dw137_2 7 rfl) rfl
theorem dX9_child_41 : DE cX9_child 41 (.ireturn) 1 := dop_172 (dn_w dw137_2 9 rfl)
theorem dX9_child_42 : DE cX9_child 42 (.aload_n 0) 1 := dop_42 (dn_w dw137_2 10 rfl)
theorem dX9_child_43 : DE cX9_child 43 (.getfield 7) 3 := dop_180 (dn_w dw137_2 11 rfl) rfl
theorem dX9_child_46 : DE cX9_child 46 (.iconst 4) 1 := dop_7 (dn_w dw137_2 14 rfl)
theorem dX9_child_47 : DE cX9_child 47 (.aload_n 0) 1 := dop_42 (dn_w dw137_2 15 rfl)
theorem dX9_child_48 : DE cX9_child 48 (.getfield 91) 3 := dop_180 (dn_w dw137_3 0 rfl) rfl
theorem dX9_child_51 : DE cX9_child 51 (.imul) 1 := dop_104 (dn_w dw137_3 3 rfl)
theorem dX9_child_52 : DE cX9_child 52 (.iload_n 1) 1 := dop_27 (dn_w dw137_3 4 rfl)
theorem dX9_child_53 : DE cX9_child 53 (.iastore) 1 := dop_79 (dn_w dw137_3 5 rfl)
theorem dX9_child_54 : DE cX9_child 54 (.aload_n 0) 1 := dop_42 (dn_w dw137_3 6 rfl)
theorem dX9_child_55 : DE cX9_child 55 (.getfield 7) 3 := dop_180 (dn_w dw137_3 7 rfl) rfl
theorem dX9_child_58 : DE cX9_child 58 (.iconst 4) 1 := dop_7 (dn_w dw137_3 10 rfl)
theorem dX9_child_59 : DE cX9_child 59 (.aload_n 0) 1 := dop_42 (dn_w dw137_3 11 rfl)
theorem dX9_child_60 : DE cX9_child 60 (.getfield 91) 3 := dop_180 (dn_w dw137_3 12 rfl) rfl
theorem dX9_child_63 : DE cX9_child 63 (.imul) 1 := dop_104 (dn_w dw137_3 15 rfl)
theorem dX9_child_64 : DE cX9_child 64 (.iconst 1) 1 := dop_4 (dn_w dw137_4 0 rfl)
theorem dX9_child_65 : DE cX9_child 65 (.iadd) 1 := dop_96 (dn_w dw137_4 1 rfl)
theorem dX9_child_66 : DE cX9_child 66 (.iload_n 2) 1 := dop_28 (dn_w dw137_4 2 rfl)
theorem dX9_child_67 : DE cX9_child 67 (.iastore) 1 := dop_79 (dn_w dw137_4 3 rfl)
theorem dX9_child_68 : DE cX9_child 68 (.aload_n 0) 1 := dop_42 (dn_w dw137_4 4 rfl)
theorem dX9_child_69 : DE cX9_child 69 (.getfield 7) 3 := dop_180 (dn_w dw137_4 5 rfl) rfl
theorem dX9_child_72 : DE cX9_child 72 (.iconst 4) 1 := dop_7 (dn_w dw137_4 8 rfl)
theorem dX9_child_73 : DE cX9_child 73 (.aload_n 0) 1 := dop_42 (dn_w dw137_4 9 rfl)
theorem dX9_child_74 : DE cX9_child 74 (.getfield 91) 3 := dop_180 (dn_w dw137_4 10 rfl) rfl
theorem dX9_child_77 : DE cX9_child 77 (.imul) 1 := dop_104 (dn_w dw137_4 13 rfl)
theorem dX9_child_78 : DE cX9_child 78 (.iconst 2) 1 := dop_5 (dn_w dw137_4 14 rfl)
theorem dX9_child_79 : DE cX9_child 79 (.iadd) 1 := dop_96 (dn_w dw137_4 15 rfl)
theorem dX9_child_80 : DE cX9_child 80 (.iload_n 3) 1 := dop_29 (dn_w dw137_5 0 rfl)
theorem dX9_child_81 : DE cX9_child 81 (.iastore) 1 := dop_79 (dn_w dw137_5 1 rfl)
theorem dX9_child_82 : DE cX9_child 82 (.aload_n 0) 1 := dop_42 (dn_w dw137_5 2 rfl)
theorem dX9_child_83 : DE cX9_child 83 (.getfield 7) 3 := dop_180 (dn_w dw137_5 3 rfl) rfl
theorem dX9_child_86 : DE cX9_child 86 (.iconst 4) 1 := dop_7 (dn_w dw137_5 6 rfl)
theorem dX9_child_87 : DE cX9_child 87 (.aload_n 0) 1 := dop_42 (dn_w dw137_5 7 rfl)
theorem dX9_child_88 : DE cX9_child 88 (.getfield 91) 3 := dop_180 (dn_w dw137_5 8 rfl) rfl
theorem dX9_child_91 : DE cX9_child 91 (.imul) 1 := dop_104 (dn_w dw137_5 11 rfl)
theorem dX9_child_92 : DE cX9_child 92 (.iconst 3) 1 := dop_6 (dn_w dw137_5 12 rfl)
theorem dX9_child_93 : DE cX9_child 93 (.iadd) 1 := dop_96 (dn_w dw137_5 13 rfl)
theorem dX9_child_94 : DE cX9_child 94 (.iload 4) 2 := dop_21 (dn_w dw137_5 14 rfl)
theorem dX9_child_96 : DE cX9_child 96 (.iastore) 1 := dop_79 (dn_w dw137_6 0 rfl)
theorem dX9_child_97 : DE cX9_child 97 (.aload_n 0) 1 := dop_42 (dn_w dw137_6 1 rfl)
theorem dX9_child_98 : DE cX9_child 98 (.getfield 13) 3 := dop_180 (dn_w dw137_6 2 rfl) rfl
theorem dX9_child_101 : DE cX9_child 101 (.iconst 1) 1 := dop_4 (dn_w dw137_6 5 rfl)
theorem dX9_child_102 : DE cX9_child 102 (.aload_n 0) 1 := dop_42 (dn_w dw137_6 6 rfl)
theorem dX9_child_103 : DE cX9_child 103 (.getfield 91) 3 := dop_180 (dn_w dw137_6 7 rfl) rfl
theorem dX9_child_106 : DE cX9_child 106 (.iadd) 1 := dop_96 (dn_w dw137_6 10 rfl)
theorem dX9_child_107 : DE cX9_child 107 (.iconst 0) 1 := dop_3 (dn_w dw137_6 11 rfl)
theorem dX9_child_108 : DE cX9_child 108 (.iastore) 1 := dop_79 (dn_w dw137_6 12 rfl)
theorem dX9_child_109 : DE cX9_child 109 (.aload_n 0) 1 := dop_42 (dn_w dw137_6 13 rfl)
theorem dX9_child_110 : DE cX9_child 110 (.getfield 13) 3 := dop_180 (dn_w dw137_6 14 rfl) rfl
theorem dX9_child_113 : DE cX9_child 113 (.bipush 9) 2 := dop_16 (dn_w dw137_7 1 rfl) rfl
theorem dX9_child_115 : DE cX9_child 115 (.aload_n 0) 1 := dop_42 (dn_w dw137_7 3 rfl)
theorem dX9_child_116 : DE cX9_child 116 (.getfield 91) 3 := dop_180 (dn_w dw137_7 4 rfl) rfl
theorem dX9_child_119 : DE cX9_child 119 (.iadd) 1 := dop_96 (dn_w dw137_7 7 rfl)
theorem dX9_child_120 : DE cX9_child 120 (.iconst 0) 1 := dop_3 (dn_w dw137_7 8 rfl)
theorem dX9_child_121 : DE cX9_child 121 (.iastore) 1 := dop_79 (dn_w dw137_7 9 rfl)
theorem dX9_child_122 : DE cX9_child 122 (.aload_n 0) 1 := dop_42 (dn_w dw137_7 10 rfl)
theorem dX9_child_123 : DE cX9_child 123 (.getfield 13) 3 := dop_180 (dn_w dw137_7 11 rfl) rfl
theorem dX9_child_126 : DE cX9_child 126 (.bipush 17) 2 := dop_16 (dn_w dw137_7 14 rfl) rfl
theorem dX9_child_128 : DE cX9_child 128 (.aload_n 0) 1 := dop_42 (dn_w dw137_8 0 rfl)
theorem dX9_child_129 : DE cX9_child 129 (.getfield 91) 3 := dop_180 (dn_w dw137_8 1 rfl) rfl
theorem dX9_child_132 : DE cX9_child 132 (.iadd) 1 := dop_96 (dn_w dw137_8 4 rfl)
theorem dX9_child_133 : DE cX9_child 133 (.iconst 0) 1 := dop_3 (dn_w dw137_8 5 rfl)
theorem dX9_child_134 : DE cX9_child 134 (.iastore) 1 := dop_79 (dn_w dw137_8 6 rfl)
theorem dX9_child_135 : DE cX9_child 135 (.aload_n 0) 1 := dop_42 (dn_w dw137_8 7 rfl)
theorem dX9_child_136 : DE cX9_child 136 (.dup) 1 := dop_89 (dn_w dw137_8 8 rfl)
theorem dX9_child_137 : DE cX9_child 137 (.getfield 91) 3 := dop_180 (dn_w dw137_8 9 rfl) rfl
theorem dX9_child_140 : DE cX9_child 140 (.iconst 1) 1 := dop_4 (dn_w dw137_8 12 rfl)
theorem dX9_child_141 : DE cX9_child 141 (.iadd) 1 := dop_96 (dn_w dw137_8 13 rfl)
theorem dX9_child_142 : DE cX9_child 142 (.putfield 91) 3 := dop_181 (dn_w dw137_8 14 rfl) rfl
theorem dX9_child_145 : DE cX9_child 145 (.aload_n 0) 1 := dop_42 (dn_w dw137_9 1 rfl)
theorem dX9_child_146 : DE cX9_child 146 (.getfield 91) 3 := dop_180 (dn_w dw137_9 2 rfl) rfl
theorem dX9_child_149 : DE cX9_child 149 (.iconst 1) 1 := dop_4 (dn_w dw137_9 5 rfl)
theorem dX9_child_150 : DE cX9_child 150 (.isub) 1 := dop_100 (dn_w dw137_9 6 rfl)
theorem dX9_child_151 : DE cX9_child 151 (.ireturn) 1 := dop_172 (dn_w dw137_9 7 rfl)
noncomputable def dt138_3 : List Nat := 8 :: 160 :: 0 :: 8 :: 16 :: 9 :: 167 :: 0 :: 5 :: 16 :: 17 :: 27 :: 96 :: 46 :: 172 :: []
noncomputable def dt138_2 : List Nat := 0 :: 31 :: 42 :: 180 :: 0 :: 13 :: 28 :: 7 :: 160 :: 0 :: 7 :: 4 :: 167 :: 0 :: 15 :: 28 :: dt138_3
noncomputable def dt138_1 : List Nat := 0 :: 5 :: 2 :: 172 :: 28 :: 7 :: 162 :: 0 :: 12 :: 42 :: 27 :: 28 :: 182 :: 0 :: 209 :: 167 :: dt138_2
noncomputable def dt138_0 : List Nat := 42 :: 27 :: 182 :: 0 :: 206 :: 153 :: 0 :: 13 :: 28 :: 3 :: 16 :: 6 :: 184 :: 0 :: 87 :: 154 :: dt138_1
theorem dw138_0 : dn cX9_childOf 0 = dt138_0 := by decide +kernel
theorem dw138_1 : dn cX9_childOf 16 = dt138_1 := dn_w dw138_0 16 rfl
theorem dw138_2 : dn cX9_childOf 32 = dt138_2 := dn_w dw138_1 16 rfl
theorem dw138_3 : dn cX9_childOf 48 = dt138_3 := dn_w dw138_2 16 rfl
theorem dX9_childOf_0 : DE cX9_childOf 0 (.aload_n 0) 1 := dop_42 (dn_w dw138_0 0 rfl)
theorem dX9_childOf_1 : DE cX9_childOf 1 (.iload_n 1) 1 := dop_27 (dn_w dw138_0 1 rfl)
theorem dX9_childOf_2 : DE cX9_childOf 2 (.invokevirtual 206) 3 := dop_182 (dn_w dw138_0 2 rfl) rfl
theorem dX9_childOf_5 : DE cX9_childOf 5 (.ifCond .eq 13) 3 := dop_153 (dn_w dw138_0 5 rfl) rfl
theorem dX9_childOf_8 : DE cX9_childOf 8 (.iload_n 2) 1 := dop_28 (dn_w dw138_0 8 rfl)
theorem dX9_childOf_9 : DE cX9_childOf 9 (.iconst 0) 1 := dop_3 (dn_w dw138_0 9 rfl)
theorem dX9_childOf_10 : DE cX9_childOf 10 (.bipush 6) 2 := dop_16 (dn_w dw138_0 10 rfl) rfl
theorem dX9_childOf_12 : DE cX9_childOf 12 (.invokestatic 87) 3 := dop_184 (dn_w dw138_0 12 rfl) rfl
theorem dX9_childOf_15 : DE cX9_childOf 15 (.ifCond .ne 5) 3 := dop_154 (dn_w dw138_0 15 rfl) rfl
theorem dX9_childOf_18 : DE cX9_childOf 18 (.iconst (-1)) 1 := dop_2 (dn_w dw138_1 2 rfl)
theorem dX9_childOf_19 : DE cX9_childOf 19 (.ireturn) 1 := dop_172 (dn_w dw138_1 3 rfl)
theorem dX9_childOf_20 : DE cX9_childOf 20 (.iload_n 2) 1 := dop_28 (dn_w dw138_1 4 rfl)
theorem dX9_childOf_21 : DE cX9_childOf 21 (.iconst 4) 1 := dop_7 (dn_w dw138_1 5 rfl)
theorem dX9_childOf_22 : DE cX9_childOf 22 (.if_icmp .ge 12) 3 := dop_162 (dn_w dw138_1 6 rfl) rfl
theorem dX9_childOf_25 : DE cX9_childOf 25 (.aload_n 0) 1 := dop_42 (dn_w dw138_1 9 rfl)
theorem dX9_childOf_26 : DE cX9_childOf 26 (.iload_n 1) 1 := dop_27 (dn_w dw138_1 10 rfl)
theorem dX9_childOf_27 : DE cX9_childOf 27 (.iload_n 2) 1 := dop_28 (dn_w dw138_1 11 rfl)
theorem dX9_childOf_28 : DE cX9_childOf 28 (.invokevirtual 209) 3 := dop_182 (dn_w dw138_1 12 rfl) rfl
theorem dX9_childOf_31 : DE cX9_childOf 31 (.goto 31) 3 := dop_167 (dn_w dw138_1 15 rfl) rfl
theorem dX9_childOf_34 : DE cX9_childOf 34 (.aload_n 0) 1 := dop_42 (dn_w dw138_2 2 rfl)
theorem dX9_childOf_35 : DE cX9_childOf 35 (.getfield 13) 3 := dop_180 (dn_w dw138_2 3 rfl) rfl
theorem dX9_childOf_38 : DE cX9_childOf 38 (.iload_n 2) 1 := dop_28 (dn_w dw138_2 6 rfl)
theorem dX9_childOf_39 : DE cX9_childOf 39 (.iconst 4) 1 := dop_7 (dn_w dw138_2 7 rfl)
theorem dX9_childOf_40 : DE cX9_childOf 40 (.if_icmp .ne 7) 3 := dop_160 (dn_w dw138_2 8 rfl) rfl
theorem dX9_childOf_43 : DE cX9_childOf 43 (.iconst 1) 1 := dop_4 (dn_w dw138_2 11 rfl)
theorem dX9_childOf_44 : DE cX9_childOf 44 (.goto 15) 3 := dop_167 (dn_w dw138_2 12 rfl) rfl
theorem dX9_childOf_47 : DE cX9_childOf 47 (.iload_n 2) 1 := dop_28 (dn_w dw138_2 15 rfl)
theorem dX9_childOf_48 : DE cX9_childOf 48 (.iconst 5) 1 := dop_8 (dn_w dw138_3 0 rfl)
theorem dX9_childOf_49 : DE cX9_childOf 49 (.if_icmp .ne 8) 3 := dop_160 (dn_w dw138_3 1 rfl) rfl
theorem dX9_childOf_52 : DE cX9_childOf 52 (.bipush 9) 2 := dop_16 (dn_w dw138_3 4 rfl) rfl
theorem dX9_childOf_54 : DE cX9_childOf 54 (.goto 5) 3 := dop_167 (dn_w dw138_3 6 rfl) rfl
theorem dX9_childOf_57 : DE cX9_childOf 57 (.bipush 17) 2 := dop_16 (dn_w dw138_3 9 rfl) rfl
theorem dX9_childOf_59 : DE cX9_childOf 59 (.iload_n 1) 1 := dop_27 (dn_w dw138_3 11 rfl)
theorem dX9_childOf_60 : DE cX9_childOf 60 (.iadd) 1 := dop_96 (dn_w dw138_3 12 rfl)
theorem dX9_childOf_61 : DE cX9_childOf 61 (.iaload) 1 := dop_46 (dn_w dw138_3 13 rfl)
theorem dX9_childOf_62 : DE cX9_childOf 62 (.ireturn) 1 := dop_172 (dn_w dw138_3 14 rfl)
noncomputable def dt139_3 : List Nat := 172 :: []
noncomputable def dt139_2 : List Nat := 104 :: 28 :: 79 :: 42 :: 180 :: 0 :: 7 :: 7 :: 27 :: 104 :: 4 :: 96 :: 29 :: 79 :: 21 :: 4 :: dt139_3
noncomputable def dt139_1 : List Nat := 2 :: 172 :: 42 :: 27 :: 3 :: 182 :: 0 :: 209 :: 54 :: 4 :: 42 :: 180 :: 0 :: 7 :: 7 :: 27 :: dt139_2
noncomputable def dt139_0 : List Nat := 42 :: 27 :: 182 :: 0 :: 206 :: 153 :: 0 :: 11 :: 28 :: 29 :: 184 :: 0 :: 202 :: 154 :: 0 :: 5 :: dt139_1
theorem dw139_0 : dn cX9_mind 0 = dt139_0 := by decide +kernel
theorem dw139_1 : dn cX9_mind 16 = dt139_1 := dn_w dw139_0 16 rfl
theorem dw139_2 : dn cX9_mind 32 = dt139_2 := dn_w dw139_1 16 rfl
theorem dw139_3 : dn cX9_mind 48 = dt139_3 := dn_w dw139_2 16 rfl
theorem dX9_mind_0 : DE cX9_mind 0 (.aload_n 0) 1 := dop_42 (dn_w dw139_0 0 rfl)
theorem dX9_mind_1 : DE cX9_mind 1 (.iload_n 1) 1 := dop_27 (dn_w dw139_0 1 rfl)
theorem dX9_mind_2 : DE cX9_mind 2 (.invokevirtual 206) 3 := dop_182 (dn_w dw139_0 2 rfl) rfl
theorem dX9_mind_5 : DE cX9_mind 5 (.ifCond .eq 11) 3 := dop_153 (dn_w dw139_0 5 rfl) rfl
theorem dX9_mind_8 : DE cX9_mind 8 (.iload_n 2) 1 := dop_28 (dn_w dw139_0 8 rfl)
theorem dX9_mind_9 : DE cX9_mind 9 (.iload_n 3) 1 := dop_29 (dn_w dw139_0 9 rfl)
theorem dX9_mind_10 : DE cX9_mind 10 (.invokestatic 202) 3 := dop_184 (dn_w dw139_0 10 rfl) rfl
theorem dX9_mind_13 : DE cX9_mind 13 (.ifCond .ne 5) 3 := dop_154 (dn_w dw139_0 13 rfl) rfl
theorem dX9_mind_16 : DE cX9_mind 16 (.iconst (-1)) 1 := dop_2 (dn_w dw139_1 0 rfl)
theorem dX9_mind_17 : DE cX9_mind 17 (.ireturn) 1 := dop_172 (dn_w dw139_1 1 rfl)
theorem dX9_mind_18 : DE cX9_mind 18 (.aload_n 0) 1 := dop_42 (dn_w dw139_1 2 rfl)
theorem dX9_mind_19 : DE cX9_mind 19 (.iload_n 1) 1 := dop_27 (dn_w dw139_1 3 rfl)
theorem dX9_mind_20 : DE cX9_mind 20 (.iconst 0) 1 := dop_3 (dn_w dw139_1 4 rfl)
theorem dX9_mind_21 : DE cX9_mind 21 (.invokevirtual 209) 3 := dop_182 (dn_w dw139_1 5 rfl) rfl
theorem dX9_mind_24 : DE cX9_mind 24 (.istore 4) 2 := dop_54 (dn_w dw139_1 8 rfl)
theorem dX9_mind_26 : DE cX9_mind 26 (.aload_n 0) 1 := dop_42 (dn_w dw139_1 10 rfl)
theorem dX9_mind_27 : DE cX9_mind 27 (.getfield 7) 3 := dop_180 (dn_w dw139_1 11 rfl) rfl
theorem dX9_mind_30 : DE cX9_mind 30 (.iconst 4) 1 := dop_7 (dn_w dw139_1 14 rfl)
theorem dX9_mind_31 : DE cX9_mind 31 (.iload_n 1) 1 := dop_27 (dn_w dw139_1 15 rfl)
theorem dX9_mind_32 : DE cX9_mind 32 (.imul) 1 := dop_104 (dn_w dw139_2 0 rfl)
theorem dX9_mind_33 : DE cX9_mind 33 (.iload_n 2) 1 := dop_28 (dn_w dw139_2 1 rfl)
theorem dX9_mind_34 : DE cX9_mind 34 (.iastore) 1 := dop_79 (dn_w dw139_2 2 rfl)
theorem dX9_mind_35 : DE cX9_mind 35 (.aload_n 0) 1 := dop_42 (dn_w dw139_2 3 rfl)
theorem dX9_mind_36 : DE cX9_mind 36 (.getfield 7) 3 := dop_180 (dn_w dw139_2 4 rfl) rfl
theorem dX9_mind_39 : DE cX9_mind 39 (.iconst 4) 1 := dop_7 (dn_w dw139_2 7 rfl)
theorem dX9_mind_40 : DE cX9_mind 40 (.iload_n 1) 1 := dop_27 (dn_w dw139_2 8 rfl)
theorem dX9_mind_41 : DE cX9_mind 41 (.imul) 1 := dop_104 (dn_w dw139_2 9 rfl)
theorem dX9_mind_42 : DE cX9_mind 42 (.iconst 1) 1 := dop_4 (dn_w dw139_2 10 rfl)
theorem dX9_mind_43 : DE cX9_mind 43 (.iadd) 1 := dop_96 (dn_w dw139_2 11 rfl)
theorem dX9_mind_44 : DE cX9_mind 44 (.iload_n 3) 1 := dop_29 (dn_w dw139_2 12 rfl)
theorem dX9_mind_45 : DE cX9_mind 45 (.iastore) 1 := dop_79 (dn_w dw139_2 13 rfl)
theorem dX9_mind_46 : DE cX9_mind 46 (.iload 4) 2 := dop_21 (dn_w dw139_2 14 rfl)
theorem dX9_mind_48 : DE cX9_mind 48 (.ireturn) 1 := dop_172 (dn_w dw139_3 0 rfl)
noncomputable def dt140_2 : List Nat := 13 :: 4 :: 27 :: 96 :: 28 :: 79 :: 29 :: 172 :: []
noncomputable def dt140_1 : List Nat := 0 :: 5 :: 2 :: 172 :: 42 :: 180 :: 0 :: 13 :: 4 :: 27 :: 96 :: 46 :: 62 :: 42 :: 180 :: 0 :: dt140_2
noncomputable def dt140_0 : List Nat := 42 :: 27 :: 182 :: 0 :: 206 :: 153 :: 0 :: 13 :: 28 :: 3 :: 16 :: 20 :: 184 :: 0 :: 87 :: 154 :: dt140_1
theorem dw140_0 : dn cX9_sick 0 = dt140_0 := by decide +kernel
theorem dw140_1 : dn cX9_sick 16 = dt140_1 := dn_w dw140_0 16 rfl
theorem dw140_2 : dn cX9_sick 32 = dt140_2 := dn_w dw140_1 16 rfl
theorem dX9_sick_0 : DE cX9_sick 0 (.aload_n 0) 1 := dop_42 (dn_w dw140_0 0 rfl)
theorem dX9_sick_1 : DE cX9_sick 1 (.iload_n 1) 1 := dop_27 (dn_w dw140_0 1 rfl)
theorem dX9_sick_2 : DE cX9_sick 2 (.invokevirtual 206) 3 := dop_182 (dn_w dw140_0 2 rfl) rfl
theorem dX9_sick_5 : DE cX9_sick 5 (.ifCond .eq 13) 3 := dop_153 (dn_w dw140_0 5 rfl) rfl
theorem dX9_sick_8 : DE cX9_sick 8 (.iload_n 2) 1 := dop_28 (dn_w dw140_0 8 rfl)
theorem dX9_sick_9 : DE cX9_sick 9 (.iconst 0) 1 := dop_3 (dn_w dw140_0 9 rfl)
theorem dX9_sick_10 : DE cX9_sick 10 (.bipush 20) 2 := dop_16 (dn_w dw140_0 10 rfl) rfl
theorem dX9_sick_12 : DE cX9_sick 12 (.invokestatic 87) 3 := dop_184 (dn_w dw140_0 12 rfl) rfl
theorem dX9_sick_15 : DE cX9_sick 15 (.ifCond .ne 5) 3 := dop_154 (dn_w dw140_0 15 rfl) rfl
theorem dX9_sick_18 : DE cX9_sick 18 (.iconst (-1)) 1 := dop_2 (dn_w dw140_1 2 rfl)
theorem dX9_sick_19 : DE cX9_sick 19 (.ireturn) 1 := dop_172 (dn_w dw140_1 3 rfl)
theorem dX9_sick_20 : DE cX9_sick 20 (.aload_n 0) 1 := dop_42 (dn_w dw140_1 4 rfl)
theorem dX9_sick_21 : DE cX9_sick 21 (.getfield 13) 3 := dop_180 (dn_w dw140_1 5 rfl) rfl
theorem dX9_sick_24 : DE cX9_sick 24 (.iconst 1) 1 := dop_4 (dn_w dw140_1 8 rfl)
theorem dX9_sick_25 : DE cX9_sick 25 (.iload_n 1) 1 := dop_27 (dn_w dw140_1 9 rfl)
theorem dX9_sick_26 : DE cX9_sick 26 (.iadd) 1 := dop_96 (dn_w dw140_1 10 rfl)
theorem dX9_sick_27 : DE cX9_sick 27 (.iaload) 1 := dop_46 (dn_w dw140_1 11 rfl)
theorem dX9_sick_28 : DE cX9_sick 28 (.istore_n 3) 1 := dop_62 (dn_w dw140_1 12 rfl)
theorem dX9_sick_29 : DE cX9_sick 29 (.aload_n 0) 1 := dop_42 (dn_w dw140_1 13 rfl)
theorem dX9_sick_30 : DE cX9_sick 30 (.getfield 13) 3 := dop_180 (dn_w dw140_1 14 rfl) rfl
theorem dX9_sick_33 : DE cX9_sick 33 (.iconst 1) 1 := dop_4 (dn_w dw140_2 1 rfl)
theorem dX9_sick_34 : DE cX9_sick 34 (.iload_n 1) 1 := dop_27 (dn_w dw140_2 2 rfl)
theorem dX9_sick_35 : DE cX9_sick 35 (.iadd) 1 := dop_96 (dn_w dw140_2 3 rfl)
theorem dX9_sick_36 : DE cX9_sick 36 (.iload_n 2) 1 := dop_28 (dn_w dw140_2 4 rfl)
theorem dX9_sick_37 : DE cX9_sick 37 (.iastore) 1 := dop_79 (dn_w dw140_2 5 rfl)
theorem dX9_sick_38 : DE cX9_sick 38 (.iload_n 3) 1 := dop_29 (dn_w dw140_2 6 rfl)
theorem dX9_sick_39 : DE cX9_sick 39 (.ireturn) 1 := dop_172 (dn_w dw140_2 7 rfl)
noncomputable def dt141_2 : List Nat := 79 :: 29 :: 172 :: []
noncomputable def dt141_1 : List Nat := 5 :: 2 :: 172 :: 42 :: 180 :: 0 :: 16 :: 27 :: 46 :: 62 :: 42 :: 180 :: 0 :: 16 :: 27 :: 28 :: dt141_2
noncomputable def dt141_0 : List Nat := 27 :: 184 :: 0 :: 212 :: 153 :: 0 :: 13 :: 28 :: 3 :: 16 :: 31 :: 184 :: 0 :: 87 :: 154 :: 0 :: dt141_1
theorem dw141_0 : dn cX9_event 0 = dt141_0 := by decide +kernel
theorem dw141_1 : dn cX9_event 16 = dt141_1 := dn_w dw141_0 16 rfl
theorem dw141_2 : dn cX9_event 32 = dt141_2 := dn_w dw141_1 16 rfl
theorem dX9_event_0 : DE cX9_event 0 (.iload_n 1) 1 := dop_27 (dn_w dw141_0 0 rfl)
theorem dX9_event_1 : DE cX9_event 1 (.invokestatic 212) 3 := dop_184 (dn_w dw141_0 1 rfl) rfl
theorem dX9_event_4 : DE cX9_event 4 (.ifCond .eq 13) 3 := dop_153 (dn_w dw141_0 4 rfl) rfl
theorem dX9_event_7 : DE cX9_event 7 (.iload_n 2) 1 := dop_28 (dn_w dw141_0 7 rfl)
theorem dX9_event_8 : DE cX9_event 8 (.iconst 0) 1 := dop_3 (dn_w dw141_0 8 rfl)
theorem dX9_event_9 : DE cX9_event 9 (.bipush 31) 2 := dop_16 (dn_w dw141_0 9 rfl) rfl
theorem dX9_event_11 : DE cX9_event 11 (.invokestatic 87) 3 := dop_184 (dn_w dw141_0 11 rfl) rfl
theorem dX9_event_14 : DE cX9_event 14 (.ifCond .ne 5) 3 := dop_154 (dn_w dw141_0 14 rfl) rfl
theorem dX9_event_17 : DE cX9_event 17 (.iconst (-1)) 1 := dop_2 (dn_w dw141_1 1 rfl)
theorem dX9_event_18 : DE cX9_event 18 (.ireturn) 1 := dop_172 (dn_w dw141_1 2 rfl)
theorem dX9_event_19 : DE cX9_event 19 (.aload_n 0) 1 := dop_42 (dn_w dw141_1 3 rfl)
theorem dX9_event_20 : DE cX9_event 20 (.getfield 16) 3 := dop_180 (dn_w dw141_1 4 rfl) rfl
theorem dX9_event_23 : DE cX9_event 23 (.iload_n 1) 1 := dop_27 (dn_w dw141_1 7 rfl)
theorem dX9_event_24 : DE cX9_event 24 (.iaload) 1 := dop_46 (dn_w dw141_1 8 rfl)
theorem dX9_event_25 : DE cX9_event 25 (.istore_n 3) 1 := dop_62 (dn_w dw141_1 9 rfl)
theorem dX9_event_26 : DE cX9_event 26 (.aload_n 0) 1 := dop_42 (dn_w dw141_1 10 rfl)
theorem dX9_event_27 : DE cX9_event 27 (.getfield 16) 3 := dop_180 (dn_w dw141_1 11 rfl) rfl
theorem dX9_event_30 : DE cX9_event 30 (.iload_n 1) 1 := dop_27 (dn_w dw141_1 14 rfl)
theorem dX9_event_31 : DE cX9_event 31 (.iload_n 2) 1 := dop_28 (dn_w dw141_1 15 rfl)
theorem dX9_event_32 : DE cX9_event 32 (.iastore) 1 := dop_79 (dn_w dw141_2 0 rfl)
theorem dX9_event_33 : DE cX9_event 33 (.iload_n 3) 1 := dop_29 (dn_w dw141_2 1 rfl)
theorem dX9_event_34 : DE cX9_event 34 (.ireturn) 1 := dop_172 (dn_w dw141_2 2 rfl)
noncomputable def dt142_3 : List Nat := 6 :: 160 :: 0 :: 12 :: 42 :: 180 :: 0 :: 22 :: 27 :: 46 :: 167 :: 0 :: 4 :: 2 :: 172 :: []
noncomputable def dt142_2 : List Nat := 32 :: 28 :: 5 :: 160 :: 0 :: 12 :: 42 :: 180 :: 0 :: 19 :: 27 :: 46 :: 167 :: 0 :: 18 :: 28 :: dt142_3
noncomputable def dt142_1 : List Nat := 16 :: 27 :: 46 :: 167 :: 0 :: 43 :: 28 :: 4 :: 160 :: 0 :: 9 :: 27 :: 8 :: 112 :: 167 :: 0 :: dt142_2
noncomputable def dt142_0 : List Nat := 27 :: 184 :: 0 :: 212 :: 154 :: 0 :: 5 :: 2 :: 172 :: 28 :: 154 :: 0 :: 12 :: 42 :: 180 :: 0 :: dt142_1
theorem dw142_0 : dn cX9_dayOf 0 = dt142_0 := by decide +kernel
theorem dw142_1 : dn cX9_dayOf 16 = dt142_1 := dn_w dw142_0 16 rfl
theorem dw142_2 : dn cX9_dayOf 32 = dt142_2 := dn_w dw142_1 16 rfl
theorem dw142_3 : dn cX9_dayOf 48 = dt142_3 := dn_w dw142_2 16 rfl
theorem dX9_dayOf_0 : DE cX9_dayOf 0 (.iload_n 1) 1 := dop_27 (dn_w dw142_0 0 rfl)
theorem dX9_dayOf_1 : DE cX9_dayOf 1 (.invokestatic 212) 3 := dop_184 (dn_w dw142_0 1 rfl) rfl
theorem dX9_dayOf_4 : DE cX9_dayOf 4 (.ifCond .ne 5) 3 := dop_154 (dn_w dw142_0 4 rfl) rfl
theorem dX9_dayOf_7 : DE cX9_dayOf 7 (.iconst (-1)) 1 := dop_2 (dn_w dw142_0 7 rfl)
theorem dX9_dayOf_8 : DE cX9_dayOf 8 (.ireturn) 1 := dop_172 (dn_w dw142_0 8 rfl)
theorem dX9_dayOf_9 : DE cX9_dayOf 9 (.iload_n 2) 1 := dop_28 (dn_w dw142_0 9 rfl)
theorem dX9_dayOf_10 : DE cX9_dayOf 10 (.ifCond .ne 12) 3 := dop_154 (dn_w dw142_0 10 rfl) rfl
theorem dX9_dayOf_13 : DE cX9_dayOf 13 (.aload_n 0) 1 := dop_42 (dn_w dw142_0 13 rfl)
theorem dX9_dayOf_14 : DE cX9_dayOf 14 (.getfield 16) 3 := dop_180 (dn_w dw142_0 14 rfl) rfl
theorem dX9_dayOf_17 : DE cX9_dayOf 17 (.iload_n 1) 1 := dop_27 (dn_w dw142_1 1 rfl)
theorem dX9_dayOf_18 : DE cX9_dayOf 18 (.iaload) 1 := dop_46 (dn_w dw142_1 2 rfl)
theorem dX9_dayOf_19 : DE cX9_dayOf 19 (.goto 43) 3 := dop_167 (dn_w dw142_1 3 rfl) rfl
theorem dX9_dayOf_22 : DE cX9_dayOf 22 (.iload_n 2) 1 := dop_28 (dn_w dw142_1 6 rfl)
theorem dX9_dayOf_23 : DE cX9_dayOf 23 (.iconst 1) 1 := dop_4 (dn_w dw142_1 7 rfl)
theorem dX9_dayOf_24 : DE cX9_dayOf 24 (.if_icmp .ne 9) 3 := dop_160 (dn_w dw142_1 8 rfl) rfl
theorem dX9_dayOf_27 : DE cX9_dayOf 27 (.iload_n 1) 1 := dop_27 (dn_w dw142_1 11 rfl)
theorem dX9_dayOf_28 : DE cX9_dayOf 28 (.iconst 5) 1 := dop_8 (dn_w dw142_1 12 rfl)
theorem dX9_dayOf_29 : DE cX9_dayOf 29 (.irem) 1 := dop_112 (dn_w dw142_1 13 rfl)
theorem dX9_dayOf_30 : DE cX9_dayOf 30 (.goto 32) 3 := dop_167 (dn_w dw142_1 14 rfl) rfl
theorem dX9_dayOf_33 : DE cX9_dayOf 33 (.iload_n 2) 1 := dop_28 (dn_w dw142_2 1 rfl)
theorem dX9_dayOf_34 : DE cX9_dayOf 34 (.iconst 2) 1 := dop_5 (dn_w dw142_2 2 rfl)
theorem dX9_dayOf_35 : DE cX9_dayOf 35 (.if_icmp .ne 12) 3 := dop_160 (dn_w dw142_2 3 rfl) rfl
theorem dX9_dayOf_38 : DE cX9_dayOf 38 (.aload_n 0) 1 := dop_42 (dn_w dw142_2 6 rfl)
theorem dX9_dayOf_39 : DE cX9_dayOf 39 (.getfield 19) 3 := dop_180 (dn_w dw142_2 7 rfl) rfl
theorem dX9_dayOf_42 : DE cX9_dayOf 42 (.iload_n 1) 1 := dop_27 (dn_w dw142_2 10 rfl)
theorem dX9_dayOf_43 : DE cX9_dayOf 43 (.iaload) 1 := dop_46 (dn_w dw142_2 11 rfl)
theorem dX9_dayOf_44 : DE cX9_dayOf 44 (.goto 18) 3 := dop_167 (dn_w dw142_2 12 rfl) rfl
theorem dX9_dayOf_47 : DE cX9_dayOf 47 (.iload_n 2) 1 := dop_28 (dn_w dw142_2 15 rfl)
theorem dX9_dayOf_48 : DE cX9_dayOf 48 (.iconst 3) 1 := dop_6 (dn_w dw142_3 0 rfl)
theorem dX9_dayOf_49 : DE cX9_dayOf 49 (.if_icmp .ne 12) 3 := dop_160 (dn_w dw142_3 1 rfl) rfl
theorem dX9_dayOf_52 : DE cX9_dayOf 52 (.aload_n 0) 1 := dop_42 (dn_w dw142_3 4 rfl)
theorem dX9_dayOf_53 : DE cX9_dayOf 53 (.getfield 22) 3 := dop_180 (dn_w dw142_3 5 rfl) rfl
theorem dX9_dayOf_56 : DE cX9_dayOf 56 (.iload_n 1) 1 := dop_27 (dn_w dw142_3 8 rfl)
theorem dX9_dayOf_57 : DE cX9_dayOf 57 (.iaload) 1 := dop_46 (dn_w dw142_3 9 rfl)
theorem dX9_dayOf_58 : DE cX9_dayOf 58 (.goto 4) 3 := dop_167 (dn_w dw142_3 10 rfl) rfl
theorem dX9_dayOf_61 : DE cX9_dayOf 61 (.iconst (-1)) 1 := dop_2 (dn_w dw142_3 13 rfl)
theorem dX9_dayOf_62 : DE cX9_dayOf 62 (.ireturn) 1 := dop_172 (dn_w dw142_3 14 rfl)
noncomputable def dt143_3 : List Nat := 4 :: 42 :: 180 :: 0 :: 25 :: 27 :: 28 :: 79 :: 21 :: 4 :: 172 :: []
noncomputable def dt143_2 : List Nat := 46 :: 184 :: 0 :: 87 :: 154 :: 0 :: 5 :: 2 :: 172 :: 42 :: 180 :: 0 :: 25 :: 27 :: 46 :: 54 :: dt143_3
noncomputable def dt143_1 : List Nat := 27 :: 160 :: 0 :: 22 :: 28 :: 42 :: 180 :: 0 :: 28 :: 29 :: 46 :: 42 :: 180 :: 0 :: 31 :: 29 :: dt143_2
noncomputable def dt143_0 : List Nat := 27 :: 3 :: 6 :: 184 :: 0 :: 87 :: 153 :: 0 :: 7 :: 27 :: 167 :: 0 :: 4 :: 3 :: 62 :: 29 :: dt143_1
theorem dw143_0 : dn cX9_set 0 = dt143_0 := by decide +kernel
theorem dw143_1 : dn cX9_set 16 = dt143_1 := dn_w dw143_0 16 rfl
theorem dw143_2 : dn cX9_set 32 = dt143_2 := dn_w dw143_1 16 rfl
theorem dw143_3 : dn cX9_set 48 = dt143_3 := dn_w dw143_2 16 rfl
theorem dX9_set_0 : DE cX9_set 0 (.iload_n 1) 1 := dop_27 (dn_w dw143_0 0 rfl)
theorem dX9_set_1 : DE cX9_set 1 (.iconst 0) 1 := dop_3 (dn_w dw143_0 1 rfl)
theorem dX9_set_2 : DE cX9_set 2 (.iconst 3) 1 := dop_6 (dn_w dw143_0 2 rfl)
theorem dX9_set_3 : DE cX9_set 3 (.invokestatic 87) 3 := dop_184 (dn_w dw143_0 3 rfl) rfl
theorem dX9_set_6 : DE cX9_set 6 (.ifCond .eq 7) 3 := dop_153 (dn_w dw143_0 6 rfl) rfl
theorem dX9_set_9 : DE cX9_set 9 (.iload_n 1) 1 := dop_27 (dn_w dw143_0 9 rfl)
theorem dX9_set_10 : DE cX9_set 10 (.goto 4) 3 := dop_167 (dn_w dw143_0 10 rfl) rfl
theorem dX9_set_13 : DE cX9_set 13 (.iconst 0) 1 := dop_3 (dn_w dw143_0 13 rfl)
theorem dX9_set_14 : DE cX9_set 14 (.istore_n 3) 1 := dop_62 (dn_w dw143_0 14 rfl)
theorem dX9_set_15 : DE cX9_set 15 (.iload_n 3) 1 := dop_29 (dn_w dw143_0 15 rfl)
theorem dX9_set_16 : DE cX9_set 16 (.iload_n 1) 1 := dop_27 (dn_w dw143_1 0 rfl)
theorem dX9_set_17 : DE cX9_set 17 (.if_icmp .ne 22) 3 := dop_160 (dn_w dw143_1 1 rfl) rfl
theorem dX9_set_20 : DE cX9_set 20 (.iload_n 2) 1 := dop_28 (dn_w dw143_1 4 rfl)
theorem dX9_set_21 : DE cX9_set 21 (.aload_n 0) 1 := dop_42 (dn_w dw143_1 5 rfl)
theorem dX9_set_22 : DE cX9_set 22 (.getfield 28) 3 := dop_180 (dn_w dw143_1 6 rfl) rfl
theorem dX9_set_25 : DE cX9_set 25 (.iload_n 3) 1 := dop_29 (dn_w dw143_1 9 rfl)
theorem dX9_set_26 : DE cX9_set 26 (.iaload) 1 := dop_46 (dn_w dw143_1 10 rfl)
theorem dX9_set_27 : DE cX9_set 27 (.aload_n 0) 1 := dop_42 (dn_w dw143_1 11 rfl)
theorem dX9_set_28 : DE cX9_set 28 (.getfield 31) 3 := dop_180 (dn_w dw143_1 12 rfl) rfl
theorem dX9_set_31 : DE cX9_set 31 (.iload_n 3) 1 := dop_29 (dn_w dw143_1 15 rfl)
theorem dX9_set_32 : DE cX9_set 32 (.iaload) 1 := dop_46 (dn_w dw143_2 0 rfl)
theorem dX9_set_33 : DE cX9_set 33 (.invokestatic 87) 3 := dop_184 (dn_w dw143_2 1 rfl) rfl
theorem dX9_set_36 : DE cX9_set 36 (.ifCond .ne 5) 3 := dop_154 (dn_w dw143_2 4 rfl) rfl
theorem dX9_set_39 : DE cX9_set 39 (.iconst (-1)) 1 := dop_2 (dn_w dw143_2 7 rfl)
theorem dX9_set_40 : DE cX9_set 40 (.ireturn) 1 := dop_172 (dn_w dw143_2 8 rfl)
theorem dX9_set_41 : DE cX9_set 41 (.aload_n 0) 1 := dop_42 (dn_w dw143_2 9 rfl)
theorem dX9_set_42 : DE cX9_set 42 (.getfield 25) 3 := dop_180 (dn_w dw143_2 10 rfl) rfl
theorem dX9_set_45 : DE cX9_set 45 (.iload_n 1) 1 := dop_27 (dn_w dw143_2 13 rfl)
theorem dX9_set_46 : DE cX9_set 46 (.iaload) 1 := dop_46 (dn_w dw143_2 14 rfl)
theorem dX9_set_47 : DE cX9_set 47 (.istore 4) 2 := dop_54 (dn_w dw143_2 15 rfl)
theorem dX9_set_49 : DE cX9_set 49 (.aload_n 0) 1 := dop_42 (dn_w dw143_3 1 rfl)
theorem dX9_set_50 : DE cX9_set 50 (.getfield 25) 3 := dop_180 (dn_w dw143_3 2 rfl) rfl
theorem dX9_set_53 : DE cX9_set 53 (.iload_n 1) 1 := dop_27 (dn_w dw143_3 5 rfl)
theorem dX9_set_54 : DE cX9_set 54 (.iload_n 2) 1 := dop_28 (dn_w dw143_3 6 rfl)
theorem dX9_set_55 : DE cX9_set 55 (.iastore) 1 := dop_79 (dn_w dw143_3 7 rfl)
theorem dX9_set_56 : DE cX9_set 56 (.iload 4) 2 := dop_21 (dn_w dw143_3 8 rfl)
theorem dX9_set_58 : DE cX9_set 58 (.ireturn) 1 := dop_172 (dn_w dw143_3 10 rfl)
noncomputable def dt144_0 : List Nat := 42 :: 180 :: 0 :: 13 :: 3 :: 46 :: 172 :: []
theorem dw144_0 : dn cX9_today 0 = dt144_0 := by decide +kernel
theorem dX9_today_0 : DE cX9_today 0 (.aload_n 0) 1 := dop_42 (dn_w dw144_0 0 rfl)
theorem dX9_today_1 : DE cX9_today 1 (.getfield 13) 3 := dop_180 (dn_w dw144_0 1 rfl) rfl
theorem dX9_today_4 : DE cX9_today 4 (.iconst 0) 1 := dop_3 (dn_w dw144_0 4 rfl)
theorem dX9_today_5 : DE cX9_today 5 (.iaload) 1 := dop_46 (dn_w dw144_0 5 rfl)
theorem dX9_today_6 : DE cX9_today 6 (.ireturn) 1 := dop_172 (dn_w dw144_0 6 rfl)
noncomputable def dt145_0 : List Nat := 26 :: 27 :: 126 :: 153 :: 0 :: 7 :: 4 :: 167 :: 0 :: 4 :: 3 :: 172 :: []
theorem dw145_0 : dn cX9_has 0 = dt145_0 := by decide +kernel
theorem dX9_has_0 : DE cX9_has 0 (.iload_n 0) 1 := dop_26 (dn_w dw145_0 0 rfl)
theorem dX9_has_1 : DE cX9_has 1 (.iload_n 1) 1 := dop_27 (dn_w dw145_0 1 rfl)
theorem dX9_has_2 : DE cX9_has 2 (.iand) 1 := dop_126 (dn_w dw145_0 2 rfl)
theorem dX9_has_3 : DE cX9_has 3 (.ifCond .eq 7) 3 := dop_153 (dn_w dw145_0 3 rfl) rfl
theorem dX9_has_6 : DE cX9_has 6 (.iconst 1) 1 := dop_4 (dn_w dw145_0 6 rfl)
theorem dX9_has_7 : DE cX9_has 7 (.goto 4) 3 := dop_167 (dn_w dw145_0 7 rfl) rfl
theorem dX9_has_10 : DE cX9_has 10 (.iconst 0) 1 := dop_3 (dn_w dw145_0 10 rfl)
theorem dX9_has_11 : DE cX9_has 11 (.ireturn) 1 := dop_172 (dn_w dw145_0 11 rfl)
noncomputable def dt146_11 : List Nat := 172 :: 3 :: 172 :: []
noncomputable def dt146_10 : List Nat := 21 :: 5 :: 42 :: 180 :: 0 :: 25 :: 4 :: 46 :: 161 :: 0 :: 7 :: 4 :: 167 :: 0 :: 4 :: 3 :: dt146_11
noncomputable def dt146_9 : List Nat := 28 :: 8 :: 161 :: 0 :: 14 :: 21 :: 7 :: 153 :: 0 :: 20 :: 21 :: 7 :: 7 :: 159 :: 0 :: 14 :: dt146_10
noncomputable def dt146_8 : List Nat := 4 :: 184 :: 0 :: 215 :: 154 :: 0 :: 39 :: 21 :: 6 :: 7 :: 184 :: 0 :: 215 :: 154 :: 0 :: 30 :: dt146_9
noncomputable def dt146_7 : List Nat := 6 :: 4 :: 184 :: 0 :: 215 :: 153 :: 0 :: 7 :: 4 :: 167 :: 0 :: 4 :: 3 :: 172 :: 21 :: 6 :: dt146_8
noncomputable def dt146_6 : List Nat := 7 :: 4 :: 167 :: 0 :: 4 :: 3 :: 172 :: 21 :: 4 :: 172 :: 21 :: 4 :: 154 :: 0 :: 12 :: 21 :: dt146_7
noncomputable def dt146_5 : List Nat := 21 :: 7 :: 28 :: 8 :: 112 :: 159 :: 0 :: 12 :: 29 :: 28 :: 96 :: 5 :: 112 :: 4 :: 160 :: 0 :: dt146_6
noncomputable def dt146_4 : List Nat := 7 :: 4 :: 167 :: 0 :: 4 :: 3 :: 172 :: 21 :: 6 :: 5 :: 184 :: 0 :: 215 :: 154 :: 0 :: 20 :: dt146_5
noncomputable def dt146_3 : List Nat := 21 :: 6 :: 5 :: 184 :: 0 :: 215 :: 154 :: 0 :: 11 :: 21 :: 7 :: 28 :: 8 :: 112 :: 160 :: 0 :: dt146_4
noncomputable def dt146_2 : List Nat := 0 :: 0 :: 0 :: 89 :: 0 :: 0 :: 0 :: 112 :: 0 :: 0 :: 0 :: 57 :: 0 :: 0 :: 0 :: 92 :: dt146_3
noncomputable def dt146_1 : List Nat := 0 :: 0 :: 0 :: 163 :: 0 :: 0 :: 0 :: 1 :: 0 :: 0 :: 0 :: 5 :: 0 :: 0 :: 0 :: 34 :: dt146_2
noncomputable def dt146_0 : List Nat := 42 :: 180 :: 0 :: 16 :: 29 :: 46 :: 54 :: 6 :: 29 :: 8 :: 112 :: 54 :: 7 :: 27 :: 170 :: 0 :: dt146_1
theorem dw146_0 : dn cX9_staysAway 0 = dt146_0 := by decide +kernel
theorem dw146_1 : dn cX9_staysAway 16 = dt146_1 := dn_w dw146_0 16 rfl
theorem dw146_2 : dn cX9_staysAway 32 = dt146_2 := dn_w dw146_1 16 rfl
theorem dw146_3 : dn cX9_staysAway 48 = dt146_3 := dn_w dw146_2 16 rfl
theorem dw146_4 : dn cX9_staysAway 64 = dt146_4 := dn_w dw146_3 16 rfl
theorem dw146_5 : dn cX9_staysAway 80 = dt146_5 := dn_w dw146_4 16 rfl
theorem dw146_6 : dn cX9_staysAway 96 = dt146_6 := dn_w dw146_5 16 rfl
theorem dw146_7 : dn cX9_staysAway 112 = dt146_7 := dn_w dw146_6 16 rfl
theorem dw146_8 : dn cX9_staysAway 128 = dt146_8 := dn_w dw146_7 16 rfl
theorem dw146_9 : dn cX9_staysAway 144 = dt146_9 := dn_w dw146_8 16 rfl
theorem dw146_10 : dn cX9_staysAway 160 = dt146_10 := dn_w dw146_9 16 rfl
theorem dw146_11 : dn cX9_staysAway 176 = dt146_11 := dn_w dw146_10 16 rfl
theorem dX9_staysAway_0 : DE cX9_staysAway 0 (.aload_n 0) 1 := dop_42 (dn_w dw146_0 0 rfl)
theorem dX9_staysAway_1 : DE cX9_staysAway 1 (.getfield 16) 3 := dop_180 (dn_w dw146_0 1 rfl) rfl
theorem dX9_staysAway_4 : DE cX9_staysAway 4 (.iload_n 3) 1 := dop_29 (dn_w dw146_0 4 rfl)
theorem dX9_staysAway_5 : DE cX9_staysAway 5 (.iaload) 1 := dop_46 (dn_w dw146_0 5 rfl)
theorem dX9_staysAway_6 : DE cX9_staysAway 6 (.istore 6) 2 := dop_54 (dn_w dw146_0 6 rfl)
theorem dX9_staysAway_8 : DE cX9_staysAway 8 (.iload_n 3) 1 := dop_29 (dn_w dw146_0 8 rfl)
theorem dX9_staysAway_9 : DE cX9_staysAway 9 (.iconst 5) 1 := dop_8 (dn_w dw146_0 9 rfl)
theorem dX9_staysAway_10 : DE cX9_staysAway 10 (.irem) 1 := dop_112 (dn_w dw146_0 10 rfl)
theorem dX9_staysAway_11 : DE cX9_staysAway 11 (.istore 7) 2 := dop_54 (dn_w dw146_0 11 rfl)
theorem dX9_staysAway_13 : DE cX9_staysAway 13 (.iload_n 1) 1 := dop_27 (dn_w dw146_0 13 rfl)
theorem dX9_staysAway_14 : decode cX9_staysAway 14 = .ok (.tableswitch 163 1 5 #[34, 89, 112, 57, 92], 34) := by decide +kernel
theorem dX9_staysAway_48 : DE cX9_staysAway 48 (.iload 6) 2 := dop_21 (dn_w dw146_3 0 rfl)
theorem dX9_staysAway_50 : DE cX9_staysAway 50 (.iconst 2) 1 := dop_5 (dn_w dw146_3 2 rfl)
theorem dX9_staysAway_51 : DE cX9_staysAway 51 (.invokestatic 215) 3 := dop_184 (dn_w dw146_3 3 rfl) rfl
theorem dX9_staysAway_54 : DE cX9_staysAway 54 (.ifCond .ne 11) 3 := dop_154 (dn_w dw146_3 6 rfl) rfl
theorem dX9_staysAway_57 : DE cX9_staysAway 57 (.iload 7) 2 := dop_21 (dn_w dw146_3 9 rfl)
theorem dX9_staysAway_59 : DE cX9_staysAway 59 (.iload_n 2) 1 := dop_28 (dn_w dw146_3 11 rfl)
theorem dX9_staysAway_60 : DE cX9_staysAway 60 (.iconst 5) 1 := dop_8 (dn_w dw146_3 12 rfl)
theorem dX9_staysAway_61 : DE cX9_staysAway 61 (.irem) 1 := dop_112 (dn_w dw146_3 13 rfl)
theorem dX9_staysAway_62 : DE cX9_staysAway 62 (.if_icmp .ne 7) 3 := dop_160 (dn_w dw146_3 14 rfl) rfl
theorem dX9_staysAway_65 : DE cX9_staysAway 65 (.iconst 1) 1 := dop_4 (dn_w dw146_4 1 rfl)
theorem dX9_staysAway_66 : DE cX9_staysAway 66 (.goto 4) 3 := dop_167 (dn_w dw146_4 2 rfl) rfl
theorem dX9_staysAway_69 : DE cX9_staysAway 69 (.iconst 0) 1 := dop_3 (dn_w dw146_4 5 rfl)
theorem dX9_staysAway_70 : DE cX9_staysAway 70 (.ireturn) 1 := dop_172 (dn_w dw146_4 6 rfl)
theorem dX9_staysAway_71 : DE cX9_staysAway 71 (.iload 6) 2 := dop_21 (dn_w dw146_4 7 rfl)
theorem dX9_staysAway_73 : DE cX9_staysAway 73 (.iconst 2) 1 := dop_5 (dn_w dw146_4 9 rfl)
theorem dX9_staysAway_74 : DE cX9_staysAway 74 (.invokestatic 215) 3 := dop_184 (dn_w dw146_4 10 rfl) rfl
theorem dX9_staysAway_77 : DE cX9_staysAway 77 (.ifCond .ne 20) 3 := dop_154 (dn_w dw146_4 13 rfl) rfl
theorem dX9_staysAway_80 : DE cX9_staysAway 80 (.iload 7) 2 := dop_21 (dn_w dw146_5 0 rfl)
theorem dX9_staysAway_82 : DE cX9_staysAway 82 (.iload_n 2) 1 := dop_28 (dn_w dw146_5 2 rfl)
theorem dX9_staysAway_83 : DE cX9_staysAway 83 (.iconst 5) 1 := dop_8 (dn_w dw146_5 3 rfl)
theorem dX9_staysAway_84 : DE cX9_staysAway 84 (.irem) 1 := dop_112 (dn_w dw146_5 4 rfl)
theorem dX9_staysAway_85 : DE cX9_staysAway 85 (.if_icmp .eq 12) 3 := dop_159 (dn_w dw146_5 5 rfl) rfl
theorem dX9_staysAway_88 : DE cX9_staysAway 88 (.iload_n 3) 1 := dop_29 (dn_w dw146_5 8 rfl)
theorem dX9_staysAway_89 : DE cX9_staysAway 89 (.iload_n 2) 1 := dop_28 (dn_w dw146_5 9 rfl)
theorem dX9_staysAway_90 : DE cX9_staysAway 90 (.iadd) 1 := dop_96 (dn_w dw146_5 10 rfl)
theorem dX9_staysAway_91 : DE cX9_staysAway 91 (.iconst 2) 1 := dop_5 (dn_w dw146_5 11 rfl)
theorem dX9_staysAway_92 : DE cX9_staysAway 92 (.irem) 1 := dop_112 (dn_w dw146_5 12 rfl)
theorem dX9_staysAway_93 : DE cX9_staysAway 93 (.iconst 1) 1 := dop_4 (dn_w dw146_5 13 rfl)
theorem dX9_staysAway_94 : DE cX9_staysAway 94 (.if_icmp .ne 7) 3 := dop_160 (dn_w dw146_5 14 rfl) rfl
theorem dX9_staysAway_97 : DE cX9_staysAway 97 (.iconst 1) 1 := dop_4 (dn_w dw146_6 1 rfl)
theorem dX9_staysAway_98 : DE cX9_staysAway 98 (.goto 4) 3 := dop_167 (dn_w dw146_6 2 rfl) rfl
theorem dX9_staysAway_101 : DE cX9_staysAway 101 (.iconst 0) 1 := dop_3 (dn_w dw146_6 5 rfl)
theorem dX9_staysAway_102 : DE cX9_staysAway 102 (.ireturn) 1 := dop_172 (dn_w dw146_6 6 rfl)
theorem dX9_staysAway_103 : DE cX9_staysAway 103 (.iload 4) 2 := dop_21 (dn_w dw146_6 7 rfl)
theorem dX9_staysAway_105 : DE cX9_staysAway 105 (.ireturn) 1 := dop_172 (dn_w dw146_6 9 rfl)
theorem dX9_staysAway_106 : DE cX9_staysAway 106 (.iload 4) 2 := dop_21 (dn_w dw146_6 10 rfl)
theorem dX9_staysAway_108 : DE cX9_staysAway 108 (.ifCond .ne 12) 3 := dop_154 (dn_w dw146_6 12 rfl) rfl
theorem dX9_staysAway_111 : DE cX9_staysAway 111 (.iload 6) 2 := dop_21 (dn_w dw146_6 15 rfl)
theorem dX9_staysAway_113 : DE cX9_staysAway 113 (.iconst 1) 1 := dop_4 (dn_w dw146_7 1 rfl)
theorem dX9_staysAway_114 : DE cX9_staysAway 114 (.invokestatic 215) 3 := dop_184 (dn_w dw146_7 2 rfl) rfl
theorem dX9_staysAway_117 : DE cX9_staysAway 117 (.ifCond .eq 7) 3 := dop_153 (dn_w dw146_7 5 rfl) rfl
theorem dX9_staysAway_120 : DE cX9_staysAway 120 (.iconst 1) 1 := dop_4 (dn_w dw146_7 8 rfl)
theorem dX9_staysAway_121 : DE cX9_staysAway 121 (.goto 4) 3 := dop_167 (dn_w dw146_7 9 rfl) rfl
theorem dX9_staysAway_124 : DE cX9_staysAway 124 (.iconst 0) 1 := dop_3 (dn_w dw146_7 12 rfl)
theorem dX9_staysAway_125 : DE cX9_staysAway 125 (.ireturn) 1 := dop_172 (dn_w dw146_7 13 rfl)
theorem dX9_staysAway_126 : DE cX9_staysAway 126 (.iload 6) 2 := dop_21 (dn_w dw146_7 14 rfl)
theorem dX9_staysAway_128 : DE cX9_staysAway 128 (.iconst 1) 1 := dop_4 (dn_w dw146_8 0 rfl)
theorem dX9_staysAway_129 : DE cX9_staysAway 129 (.invokestatic 215) 3 := dop_184 (dn_w dw146_8 1 rfl) rfl
theorem dX9_staysAway_132 : DE cX9_staysAway 132 (.ifCond .ne 39) 3 := dop_154 (dn_w dw146_8 4 rfl) rfl
theorem dX9_staysAway_135 : DE cX9_staysAway 135 (.iload 6) 2 := dop_21 (dn_w dw146_8 7 rfl)
theorem dX9_staysAway_137 : DE cX9_staysAway 137 (.iconst 4) 1 := dop_7 (dn_w dw146_8 9 rfl)
theorem dX9_staysAway_138 : DE cX9_staysAway 138 (.invokestatic 215) 3 := dop_184 (dn_w dw146_8 10 rfl) rfl
theorem dX9_staysAway_141 : DE cX9_staysAway 141 (.ifCond .ne 30) 3 := dop_154 (dn_w dw146_8 13 rfl) rfl
theorem dX9_staysAway_144 : DE cX9_staysAway 144 (.iload_n 2) 1 := dop_28 (dn_w dw146_9 0 rfl)
theorem dX9_staysAway_145 : DE cX9_staysAway 145 (.iconst 5) 1 := dop_8 (dn_w dw146_9 1 rfl)
theorem dX9_staysAway_146 : DE cX9_staysAway 146 (.if_icmp .lt 14) 3 := dop_161 (dn_w dw146_9 2 rfl) rfl
theorem dX9_staysAway_149 : DE cX9_staysAway 149 (.iload 7) 2 := dop_21 (dn_w dw146_9 5 rfl)
theorem dX9_staysAway_151 : DE cX9_staysAway 151 (.ifCond .eq 20) 3 := dop_153 (dn_w dw146_9 7 rfl) rfl
theorem dX9_staysAway_154 : DE cX9_staysAway 154 (.iload 7) 2 := dop_21 (dn_w dw146_9 10 rfl)
theorem dX9_staysAway_156 : DE cX9_staysAway 156 (.iconst 4) 1 := dop_7 (dn_w dw146_9 12 rfl)
theorem dX9_staysAway_157 : DE cX9_staysAway 157 (.if_icmp .eq 14) 3 := dop_159 (dn_w dw146_9 13 rfl) rfl
theorem dX9_staysAway_160 : DE cX9_staysAway 160 (.iload 5) 2 := dop_21 (dn_w dw146_10 0 rfl)
theorem dX9_staysAway_162 : DE cX9_staysAway 162 (.aload_n 0) 1 := dop_42 (dn_w dw146_10 2 rfl)
theorem dX9_staysAway_163 : DE cX9_staysAway 163 (.getfield 25) 3 := dop_180 (dn_w dw146_10 3 rfl) rfl
theorem dX9_staysAway_166 : DE cX9_staysAway 166 (.iconst 1) 1 := dop_4 (dn_w dw146_10 6 rfl)
theorem dX9_staysAway_167 : DE cX9_staysAway 167 (.iaload) 1 := dop_46 (dn_w dw146_10 7 rfl)
theorem dX9_staysAway_168 : DE cX9_staysAway 168 (.if_icmp .lt 7) 3 := dop_161 (dn_w dw146_10 8 rfl) rfl
theorem dX9_staysAway_171 : DE cX9_staysAway 171 (.iconst 1) 1 := dop_4 (dn_w dw146_10 11 rfl)
theorem dX9_staysAway_172 : DE cX9_staysAway 172 (.goto 4) 3 := dop_167 (dn_w dw146_10 12 rfl) rfl
theorem dX9_staysAway_175 : DE cX9_staysAway 175 (.iconst 0) 1 := dop_3 (dn_w dw146_10 15 rfl)
theorem dX9_staysAway_176 : DE cX9_staysAway 176 (.ireturn) 1 := dop_172 (dn_w dw146_11 0 rfl)
theorem dX9_staysAway_177 : DE cX9_staysAway 177 (.iconst 0) 1 := dop_3 (dn_w dw146_11 1 rfl)
theorem dX9_staysAway_178 : DE cX9_staysAway 178 (.ireturn) 1 := dop_172 (dn_w dw146_11 2 rfl)
noncomputable def dt147_3 : List Nat := 5 :: 21 :: 7 :: 182 :: 0 :: 218 :: 153 :: 0 :: 7 :: 4 :: 167 :: 0 :: 4 :: 3 :: 172 :: []
noncomputable def dt147_2 : List Nat := 4 :: 46 :: 16 :: 8 :: 184 :: 0 :: 215 :: 154 :: 0 :: 22 :: 42 :: 27 :: 28 :: 21 :: 4 :: 21 :: dt147_3
noncomputable def dt147_1 : List Nat := 8 :: 164 :: 0 :: 5 :: 4 :: 172 :: 21 :: 6 :: 154 :: 0 :: 37 :: 42 :: 180 :: 0 :: 16 :: 21 :: dt147_2
noncomputable def dt147_0 : List Nat := 42 :: 180 :: 0 :: 16 :: 21 :: 4 :: 46 :: 16 :: 16 :: 184 :: 0 :: 215 :: 153 :: 0 :: 10 :: 29 :: dt147_1
theorem dw147_0 : dn cX9_isAway 0 = dt147_0 := by decide +kernel
theorem dw147_1 : dn cX9_isAway 16 = dt147_1 := dn_w dw147_0 16 rfl
theorem dw147_2 : dn cX9_isAway 32 = dt147_2 := dn_w dw147_1 16 rfl
theorem dw147_3 : dn cX9_isAway 48 = dt147_3 := dn_w dw147_2 16 rfl
theorem dX9_isAway_0 : DE cX9_isAway 0 (.aload_n 0) 1 := dop_42 (dn_w dw147_0 0 rfl)
theorem dX9_isAway_1 : DE cX9_isAway 1 (.getfield 16) 3 := dop_180 (dn_w dw147_0 1 rfl) rfl
theorem dX9_isAway_4 : DE cX9_isAway 4 (.iload 4) 2 := dop_21 (dn_w dw147_0 4 rfl)
theorem dX9_isAway_6 : DE cX9_isAway 6 (.iaload) 1 := dop_46 (dn_w dw147_0 6 rfl)
theorem dX9_isAway_7 : DE cX9_isAway 7 (.bipush 16) 2 := dop_16 (dn_w dw147_0 7 rfl) rfl
theorem dX9_isAway_9 : DE cX9_isAway 9 (.invokestatic 215) 3 := dop_184 (dn_w dw147_0 9 rfl) rfl
theorem dX9_isAway_12 : DE cX9_isAway 12 (.ifCond .eq 10) 3 := dop_153 (dn_w dw147_0 12 rfl) rfl
theorem dX9_isAway_15 : DE cX9_isAway 15 (.iload_n 3) 1 := dop_29 (dn_w dw147_0 15 rfl)
theorem dX9_isAway_16 : DE cX9_isAway 16 (.iconst 5) 1 := dop_8 (dn_w dw147_1 0 rfl)
theorem dX9_isAway_17 : DE cX9_isAway 17 (.if_icmp .le 5) 3 := dop_164 (dn_w dw147_1 1 rfl) rfl
theorem dX9_isAway_20 : DE cX9_isAway 20 (.iconst 1) 1 := dop_4 (dn_w dw147_1 4 rfl)
theorem dX9_isAway_21 : DE cX9_isAway 21 (.ireturn) 1 := dop_172 (dn_w dw147_1 5 rfl)
theorem dX9_isAway_22 : DE cX9_isAway 22 (.iload 6) 2 := dop_21 (dn_w dw147_1 6 rfl)
theorem dX9_isAway_24 : DE cX9_isAway 24 (.ifCond .ne 37) 3 := dop_154 (dn_w dw147_1 8 rfl) rfl
theorem dX9_isAway_27 : DE cX9_isAway 27 (.aload_n 0) 1 := dop_42 (dn_w dw147_1 11 rfl)
theorem dX9_isAway_28 : DE cX9_isAway 28 (.getfield 16) 3 := dop_180 (dn_w dw147_1 12 rfl) rfl
theorem dX9_isAway_31 : DE cX9_isAway 31 (.iload 4) 2 := dop_21 (dn_w dw147_1 15 rfl)
theorem dX9_isAway_33 : DE cX9_isAway 33 (.iaload) 1 := dop_46 (dn_w dw147_2 1 rfl)
theorem dX9_isAway_34 : DE cX9_isAway 34 (.bipush 8) 2 := dop_16 (dn_w dw147_2 2 rfl) rfl
theorem dX9_isAway_36 : DE cX9_isAway 36 (.invokestatic 215) 3 := dop_184 (dn_w dw147_2 4 rfl) rfl
theorem dX9_isAway_39 : DE cX9_isAway 39 (.ifCond .ne 22) 3 := dop_154 (dn_w dw147_2 7 rfl) rfl
theorem dX9_isAway_42 : DE cX9_isAway 42 (.aload_n 0) 1 := dop_42 (dn_w dw147_2 10 rfl)
theorem dX9_isAway_43 : DE cX9_isAway 43 (.iload_n 1) 1 := dop_27 (dn_w dw147_2 11 rfl)
theorem dX9_isAway_44 : DE cX9_isAway 44 (.iload_n 2) 1 := dop_28 (dn_w dw147_2 12 rfl)
theorem dX9_isAway_45 : DE cX9_isAway 45 (.iload 4) 2 := dop_21 (dn_w dw147_2 13 rfl)
theorem dX9_isAway_47 : DE cX9_isAway 47 (.iload 5) 2 := dop_21 (dn_w dw147_2 15 rfl)
theorem dX9_isAway_49 : DE cX9_isAway 49 (.iload 7) 2 := dop_21 (dn_w dw147_3 1 rfl)
theorem dX9_isAway_51 : DE cX9_isAway 51 (.invokevirtual 218) 3 := dop_182 (dn_w dw147_3 3 rfl) rfl
theorem dX9_isAway_54 : DE cX9_isAway 54 (.ifCond .eq 7) 3 := dop_153 (dn_w dw147_3 6 rfl) rfl
theorem dX9_isAway_57 : DE cX9_isAway 57 (.iconst 1) 1 := dop_4 (dn_w dw147_3 9 rfl)
theorem dX9_isAway_58 : DE cX9_isAway 58 (.goto 4) 3 := dop_167 (dn_w dw147_3 10 rfl) rfl
theorem dX9_isAway_61 : DE cX9_isAway 61 (.iconst 0) 1 := dop_3 (dn_w dw147_3 13 rfl)
theorem dX9_isAway_62 : DE cX9_isAway 62 (.ireturn) 1 := dop_172 (dn_w dw147_3 14 rfl)
noncomputable def dt148_5 : List Nat := 17 :: 96 :: 27 :: 96 :: 46 :: 182 :: 0 :: 225 :: 172 :: []
noncomputable def dt148_4 : List Nat := 0 :: 7 :: 4 :: 167 :: 0 :: 4 :: 3 :: 42 :: 180 :: 0 :: 13 :: 42 :: 180 :: 0 :: 222 :: 16 :: dt148_5
noncomputable def dt148_3 : List Nat := 3 :: 42 :: 180 :: 0 :: 13 :: 42 :: 180 :: 0 :: 222 :: 16 :: 9 :: 96 :: 27 :: 96 :: 46 :: 158 :: dt148_4
noncomputable def dt148_2 : List Nat := 42 :: 180 :: 0 :: 222 :: 4 :: 96 :: 27 :: 96 :: 46 :: 158 :: 0 :: 7 :: 4 :: 167 :: 0 :: 4 :: dt148_3
noncomputable def dt148_1 : List Nat := 182 :: 0 :: 209 :: 42 :: 180 :: 0 :: 13 :: 42 :: 180 :: 0 :: 222 :: 46 :: 42 :: 180 :: 0 :: 13 :: dt148_2
noncomputable def dt148_0 : List Nat := 42 :: 42 :: 27 :: 3 :: 182 :: 0 :: 209 :: 42 :: 27 :: 4 :: 182 :: 0 :: 209 :: 42 :: 27 :: 6 :: dt148_1
theorem dw148_0 : dn cX9_wouldBe 0 = dt148_0 := by decide +kernel
theorem dw148_1 : dn cX9_wouldBe 16 = dt148_1 := dn_w dw148_0 16 rfl
theorem dw148_2 : dn cX9_wouldBe 32 = dt148_2 := dn_w dw148_1 16 rfl
theorem dw148_3 : dn cX9_wouldBe 48 = dt148_3 := dn_w dw148_2 16 rfl
theorem dw148_4 : dn cX9_wouldBe 64 = dt148_4 := dn_w dw148_3 16 rfl
theorem dw148_5 : dn cX9_wouldBe 80 = dt148_5 := dn_w dw148_4 16 rfl
theorem dX9_wouldBe_0 : DE cX9_wouldBe 0 (.aload_n 0) 1 := dop_42 (dn_w dw148_0 0 rfl)
theorem dX9_wouldBe_1 : DE cX9_wouldBe 1 (.aload_n 0) 1 := dop_42 (dn_w dw148_0 1 rfl)
theorem dX9_wouldBe_2 : DE cX9_wouldBe 2 (.iload_n 1) 1 := dop_27 (dn_w dw148_0 2 rfl)
theorem dX9_wouldBe_3 : DE cX9_wouldBe 3 (.iconst 0) 1 := dop_3 (dn_w dw148_0 3 rfl)
theorem dX9_wouldBe_4 : DE cX9_wouldBe 4 (.invokevirtual 209) 3 := dop_182 (dn_w dw148_0 4 rfl) rfl
theorem dX9_wouldBe_7 : DE cX9_wouldBe 7 (.aload_n 0) 1 := dop_42 (dn_w dw148_0 7 rfl)
theorem dX9_wouldBe_8 : DE cX9_wouldBe 8 (.iload_n 1) 1 := dop_27 (dn_w dw148_0 8 rfl)
theorem dX9_wouldBe_9 : DE cX9_wouldBe 9 (.iconst 1) 1 := dop_4 (dn_w dw148_0 9 rfl)
theorem dX9_wouldBe_10 : DE cX9_wouldBe 10 (.invokevirtual 209) 3 := dop_182 (dn_w dw148_0 10 rfl) rfl
theorem dX9_wouldBe_13 : DE cX9_wouldBe 13 (.aload_n 0) 1 := dop_42 (dn_w dw148_0 13 rfl)
theorem dX9_wouldBe_14 : DE cX9_wouldBe 14 (.iload_n 1) 1 := dop_27 (dn_w dw148_0 14 rfl)
theorem dX9_wouldBe_15 : DE cX9_wouldBe 15 (.iconst 3) 1 := dop_6 (dn_w dw148_0 15 rfl)
theorem dX9_wouldBe_16 : DE cX9_wouldBe 16 (.invokevirtual 209) 3 := dop_182 (dn_w dw148_1 0 rfl) rfl
theorem dX9_wouldBe_19 : DE cX9_wouldBe 19 (.aload_n 0) 1 := dop_42 (dn_w dw148_1 3 rfl)
theorem dX9_wouldBe_20 : DE cX9_wouldBe 20 (.getfield 13) 3 := dop_180 (dn_w dw148_1 4 rfl) rfl
theorem dX9_wouldBe_23 : DE cX9_wouldBe 23 (.aload_n 0) 1 := dop_42 (dn_w dw148_1 7 rfl)
theorem dX9_wouldBe_24 : DE cX9_wouldBe 24 (.getfield 222) 3 := dop_180 (dn_w dw148_1 8 rfl) rfl
theorem dX9_wouldBe_27 : DE cX9_wouldBe 27 (.iaload) 1 := dop_46 (dn_w dw148_1 11 rfl)
theorem dX9_wouldBe_28 : DE cX9_wouldBe 28 (.aload_n 0) 1 := dop_42 (dn_w dw148_1 12 rfl)
theorem dX9_wouldBe_29 : DE cX9_wouldBe 29 (.getfield 13) 3 := dop_180 (dn_w dw148_1 13 rfl) rfl
theorem dX9_wouldBe_32 : DE cX9_wouldBe 32 (.aload_n 0) 1 := dop_42 (dn_w dw148_2 0 rfl)
theorem dX9_wouldBe_33 : DE cX9_wouldBe 33 (.getfield 222) 3 := dop_180 (dn_w dw148_2 1 rfl) rfl
theorem dX9_wouldBe_36 : DE cX9_wouldBe 36 (.iconst 1) 1 := dop_4 (dn_w dw148_2 4 rfl)
theorem dX9_wouldBe_37 : DE cX9_wouldBe 37 (.iadd) 1 := dop_96 (dn_w dw148_2 5 rfl)
theorem dX9_wouldBe_38 : DE cX9_wouldBe 38 (.iload_n 1) 1 := dop_27 (dn_w dw148_2 6 rfl)
theorem dX9_wouldBe_39 : DE cX9_wouldBe 39 (.iadd) 1 := dop_96 (dn_w dw148_2 7 rfl)
theorem dX9_wouldBe_40 : DE cX9_wouldBe 40 (.iaload) 1 := dop_46 (dn_w dw148_2 8 rfl)
theorem dX9_wouldBe_41 : DE cX9_wouldBe 41 (.ifCond .le 7) 3 := dop_158 (dn_w dw148_2 9 rfl) rfl
theorem dX9_wouldBe_44 : DE cX9_wouldBe 44 (.iconst 1) 1 := dop_4 (dn_w dw148_2 12 rfl)
theorem dX9_wouldBe_45 : DE cX9_wouldBe 45 (.goto 4) 3 := dop_167 (dn_w dw148_2 13 rfl) rfl
theorem dX9_wouldBe_48 : DE cX9_wouldBe 48 (.iconst 0) 1 := dop_3 (dn_w dw148_3 0 rfl)
theorem dX9_wouldBe_49 : DE cX9_wouldBe 49 (.aload_n 0) 1 := dop_42 (dn_w dw148_3 1 rfl)
theorem dX9_wouldBe_50 : DE cX9_wouldBe 50 (.getfield 13) 3 := dop_180 (dn_w dw148_3 2 rfl) rfl
theorem dX9_wouldBe_53 : DE cX9_wouldBe 53 (.aload_n 0) 1 := dop_42 (dn_w dw148_3 5 rfl)
theorem dX9_wouldBe_54 : DE cX9_wouldBe 54 (.getfield 222) 3 := dop_180 (dn_w dw148_3 6 rfl) rfl
theorem dX9_wouldBe_57 : DE cX9_wouldBe 57 (.bipush 9) 2 := dop_16 (dn_w dw148_3 9 rfl) rfl
theorem dX9_wouldBe_59 : DE cX9_wouldBe 59 (.iadd) 1 := dop_96 (dn_w dw148_3 11 rfl)
theorem dX9_wouldBe_60 : DE cX9_wouldBe 60 (.iload_n 1) 1 := dop_27 (dn_w dw148_3 12 rfl)
theorem dX9_wouldBe_61 : DE cX9_wouldBe 61 (.iadd) 1 := dop_96 (dn_w dw148_3 13 rfl)
theorem dX9_wouldBe_62 : DE cX9_wouldBe 62 (.iaload) 1 := dop_46 (dn_w dw148_3 14 rfl)
theorem dX9_wouldBe_63 : DE cX9_wouldBe 63 (.ifCond .le 7) 3 := dop_158 (dn_w dw148_3 15 rfl) rfl
theorem dX9_wouldBe_66 : DE cX9_wouldBe 66 (.iconst 1) 1 := dop_4 (dn_w dw148_4 2 rfl)
theorem dX9_wouldBe_67 : DE cX9_wouldBe 67 (.goto 4) 3 := dop_167 (dn_w dw148_4 3 rfl) rfl
theorem dX9_wouldBe_70 : DE cX9_wouldBe 70 (.iconst 0) 1 := dop_3 (dn_w dw148_4 6 rfl)
theorem dX9_wouldBe_71 : DE cX9_wouldBe 71 (.aload_n 0) 1 := dop_42 (dn_w dw148_4 7 rfl)
theorem dX9_wouldBe_72 : DE cX9_wouldBe 72 (.getfield 13) 3 := dop_180 (dn_w dw148_4 8 rfl) rfl
theorem dX9_wouldBe_75 : DE cX9_wouldBe 75 (.aload_n 0) 1 := dop_42 (dn_w dw148_4 11 rfl)
theorem dX9_wouldBe_76 : DE cX9_wouldBe 76 (.getfield 222) 3 := dop_180 (dn_w dw148_4 12 rfl) rfl
theorem dX9_wouldBe_79 : DE cX9_wouldBe 79 (.bipush 17) 2 := dop_16 (dn_w dw148_4 15 rfl) rfl
theorem dX9_wouldBe_81 : DE cX9_wouldBe 81 (.iadd) 1 := dop_96 (dn_w dw148_5 1 rfl)
theorem dX9_wouldBe_82 : DE cX9_wouldBe 82 (.iload_n 1) 1 := dop_27 (dn_w dw148_5 2 rfl)
theorem dX9_wouldBe_83 : DE cX9_wouldBe 83 (.iadd) 1 := dop_96 (dn_w dw148_5 3 rfl)
theorem dX9_wouldBe_84 : DE cX9_wouldBe 84 (.iaload) 1 := dop_46 (dn_w dw148_5 4 rfl)
theorem dX9_wouldBe_85 : DE cX9_wouldBe 85 (.invokevirtual 225) 3 := dop_182 (dn_w dw148_5 5 rfl) rfl
theorem dX9_wouldBe_88 : DE cX9_wouldBe 88 (.ireturn) 1 := dop_172 (dn_w dw148_5 8 rfl)
noncomputable def dt149_2 : List Nat := 0 :: 7 :: 4 :: 167 :: 0 :: 4 :: 3 :: 172 :: []
noncomputable def dt149_1 : List Nat := 16 :: 40 :: 160 :: 0 :: 8 :: 16 :: 252 :: 167 :: 0 :: 16 :: 42 :: 27 :: 182 :: 0 :: 229 :: 153 :: dt149_2
noncomputable def dt149_0 : List Nat := 42 :: 27 :: 182 :: 0 :: 206 :: 154 :: 0 :: 5 :: 2 :: 172 :: 42 :: 180 :: 0 :: 13 :: 3 :: 46 :: dt149_1
theorem dw149_0 : dn cX9_would 0 = dt149_0 := by decide +kernel
theorem dw149_1 : dn cX9_would 16 = dt149_1 := dn_w dw149_0 16 rfl
theorem dw149_2 : dn cX9_would 32 = dt149_2 := dn_w dw149_1 16 rfl
theorem dX9_would_0 : DE cX9_would 0 (.aload_n 0) 1 := dop_42 (dn_w dw149_0 0 rfl)
theorem dX9_would_1 : DE cX9_would 1 (.iload_n 1) 1 := dop_27 (dn_w dw149_0 1 rfl)
theorem dX9_would_2 : DE cX9_would 2 (.invokevirtual 206) 3 := dop_182 (dn_w dw149_0 2 rfl) rfl
theorem dX9_would_5 : DE cX9_would 5 (.ifCond .ne 5) 3 := dop_154 (dn_w dw149_0 5 rfl) rfl
theorem dX9_would_8 : DE cX9_would 8 (.iconst (-1)) 1 := dop_2 (dn_w dw149_0 8 rfl)
theorem dX9_would_9 : DE cX9_would 9 (.ireturn) 1 := dop_172 (dn_w dw149_0 9 rfl)
theorem dX9_would_10 : DE cX9_would 10 (.aload_n 0) 1 := dop_42 (dn_w dw149_0 10 rfl)
theorem dX9_would_11 : DE cX9_would 11 (.getfield 13) 3 := dop_180 (dn_w dw149_0 11 rfl) rfl
theorem dX9_would_14 : DE cX9_would 14 (.iconst 0) 1 := dop_3 (dn_w dw149_0 14 rfl)
theorem dX9_would_15 : DE cX9_would 15 (.iaload) 1 := dop_46 (dn_w dw149_0 15 rfl)
theorem dX9_would_16 : DE cX9_would 16 (.bipush 40) 2 := dop_16 (dn_w dw149_1 0 rfl) rfl
theorem dX9_would_18 : DE cX9_would 18 (.if_icmp .ne 8) 3 := dop_160 (dn_w dw149_1 2 rfl) rfl
theorem dX9_would_21 : DE cX9_would 21 (.bipush (-4)) 2 := dop_16 (dn_w dw149_1 5 rfl) rfl
theorem dX9_would_23 : DE cX9_would 23 (.goto 16) 3 := dop_167 (dn_w dw149_1 7 rfl) rfl
theorem dX9_would_26 : DE cX9_would 26 (.aload_n 0) 1 := dop_42 (dn_w dw149_1 10 rfl)
theorem dX9_would_27 : DE cX9_would 27 (.iload_n 1) 1 := dop_27 (dn_w dw149_1 11 rfl)
theorem dX9_would_28 : DE cX9_would 28 (.invokevirtual 229) 3 := dop_182 (dn_w dw149_1 12 rfl) rfl
theorem dX9_would_31 : DE cX9_would 31 (.ifCond .eq 7) 3 := dop_153 (dn_w dw149_1 15 rfl) rfl
theorem dX9_would_34 : DE cX9_would 34 (.iconst 1) 1 := dop_4 (dn_w dw149_2 2 rfl)
theorem dX9_would_35 : DE cX9_would 35 (.goto 4) 3 := dop_167 (dn_w dw149_2 3 rfl) rfl
theorem dX9_would_38 : DE cX9_would 38 (.iconst 0) 1 := dop_3 (dn_w dw149_2 6 rfl)
theorem dX9_would_39 : DE cX9_would 39 (.ireturn) 1 := dop_172 (dn_w dw149_2 7 rfl)
noncomputable def dt150_5 : List Nat := 0 :: 7 :: 4 :: 167 :: 0 :: 4 :: 3 :: 172 :: []
noncomputable def dt150_4 : List Nat := 255 :: 201 :: 29 :: 42 :: 180 :: 0 :: 25 :: 5 :: 46 :: 162 :: 0 :: 9 :: 21 :: 4 :: 7 :: 161 :: dt150_5
noncomputable def dt150_3 : List Nat := 0 :: 7 :: 4 :: 167 :: 0 :: 4 :: 3 :: 96 :: 62 :: 132 :: 4 :: 1 :: 132 :: 5 :: 1 :: 167 :: dt150_4
noncomputable def dt150_2 : List Nat := 30 :: 29 :: 42 :: 21 :: 5 :: 5 :: 182 :: 0 :: 209 :: 42 :: 27 :: 5 :: 182 :: 0 :: 209 :: 160 :: dt150_3
noncomputable def dt150_1 : List Nat := 52 :: 21 :: 5 :: 27 :: 159 :: 0 :: 40 :: 28 :: 21 :: 5 :: 122 :: 4 :: 126 :: 4 :: 160 :: 0 :: dt150_2
noncomputable def dt150_0 : List Nat := 3 :: 62 :: 3 :: 54 :: 4 :: 3 :: 54 :: 5 :: 21 :: 5 :: 42 :: 180 :: 0 :: 91 :: 162 :: 0 :: dt150_1
theorem dw150_0 : dn cX9_catches 0 = dt150_0 := by decide +kernel
theorem dw150_1 : dn cX9_catches 16 = dt150_1 := dn_w dw150_0 16 rfl
theorem dw150_2 : dn cX9_catches 32 = dt150_2 := dn_w dw150_1 16 rfl
theorem dw150_3 : dn cX9_catches 48 = dt150_3 := dn_w dw150_2 16 rfl
theorem dw150_4 : dn cX9_catches 64 = dt150_4 := dn_w dw150_3 16 rfl
theorem dw150_5 : dn cX9_catches 80 = dt150_5 := dn_w dw150_4 16 rfl
theorem dX9_catches_0 : DE cX9_catches 0 (.iconst 0) 1 := dop_3 (dn_w dw150_0 0 rfl)
theorem dX9_catches_1 : DE cX9_catches 1 (.istore_n 3) 1 := dop_62 (dn_w dw150_0 1 rfl)
theorem dX9_catches_2 : DE cX9_catches 2 (.iconst 0) 1 := dop_3 (dn_w dw150_0 2 rfl)
theorem dX9_catches_3 : DE cX9_catches 3 (.istore 4) 2 := dop_54 (dn_w dw150_0 3 rfl)
theorem dX9_catches_5 : DE cX9_catches 5 (.iconst 0) 1 := dop_3 (dn_w dw150_0 5 rfl)
theorem dX9_catches_6 : DE cX9_catches 6 (.istore 5) 2 := dop_54 (dn_w dw150_0 6 rfl)
theorem dX9_catches_8 : DE cX9_catches 8 (.iload 5) 2 := dop_21 (dn_w dw150_0 8 rfl)
theorem dX9_catches_10 : DE cX9_catches 10 (.aload_n 0) 1 := dop_42 (dn_w dw150_0 10 rfl)
theorem dX9_catches_11 : DE cX9_catches 11 (.getfield 91) 3 := dop_180 (dn_w dw150_0 11 rfl) rfl
theorem dX9_catches_14 : DE cX9_catches 14 (.if_icmp .ge 52) 3 := dop_162 (dn_w dw150_0 14 rfl) rfl
theorem dX9_catches_17 : DE cX9_catches 17 (.iload 5) 2 := dop_21 (dn_w dw150_1 1 rfl)
theorem dX9_catches_19 : DE cX9_catches 19 (.iload_n 1) 1 := dop_27 (dn_w dw150_1 3 rfl)
theorem dX9_catches_20 : DE cX9_catches 20 (.if_icmp .eq 40) 3 := dop_159 (dn_w dw150_1 4 rfl) rfl
theorem dX9_catches_23 : DE cX9_catches 23 (.iload_n 2) 1 := dop_28 (dn_w dw150_1 7 rfl)
theorem dX9_catches_24 : DE cX9_catches 24 (.iload 5) 2 := dop_21 (dn_w dw150_1 8 rfl)
theorem dX9_catches_26 : DE cX9_catches 26 (.ishr) 1 := dop_122 (dn_w dw150_1 10 rfl)
theorem dX9_catches_27 : DE cX9_catches 27 (.iconst 1) 1 := dop_4 (dn_w dw150_1 11 rfl)
theorem dX9_catches_28 : DE cX9_catches 28 (.iand) 1 := dop_126 (dn_w dw150_1 12 rfl)
theorem dX9_catches_29 : DE cX9_catches 29 (.iconst 1) 1 := dop_4 (dn_w dw150_1 13 rfl)
theorem dX9_catches_30 : DE cX9_catches 30 (.if_icmp .ne 30) 3 := dop_160 (dn_w dw150_1 14 rfl) rfl
theorem dX9_catches_33 : DE cX9_catches 33 (.iload_n 3) 1 := dop_29 (dn_w dw150_2 1 rfl)
theorem dX9_catches_34 : DE cX9_catches 34 (.aload_n 0) 1 := dop_42 (dn_w dw150_2 2 rfl)
theorem dX9_catches_35 : DE cX9_catches 35 (.iload 5) 2 := dop_21 (dn_w dw150_2 3 rfl)
theorem dX9_catches_37 : DE cX9_catches 37 (.iconst 2) 1 := dop_5 (dn_w dw150_2 5 rfl)
theorem dX9_catches_38 : DE cX9_catches 38 (.invokevirtual 209) 3 := dop_182 (dn_w dw150_2 6 rfl) rfl
theorem dX9_catches_41 : DE cX9_catches 41 (.aload_n 0) 1 := dop_42 (dn_w dw150_2 9 rfl)
theorem dX9_catches_42 : DE cX9_catches 42 (.iload_n 1) 1 := dop_27 (dn_w dw150_2 10 rfl)
theorem dX9_catches_43 : DE cX9_catches 43 (.iconst 2) 1 := dop_5 (dn_w dw150_2 11 rfl)
theorem dX9_catches_44 : DE cX9_catches 44 (.invokevirtual 209) 3 := dop_182 (dn_w dw150_2 12 rfl) rfl
theorem dX9_catches_47 : DE cX9_catches 47 (.if_icmp .ne 7) 3 := dop_160 (dn_w dw150_2 15 rfl) rfl
theorem dX9_catches_50 : DE cX9_catches 50 (.iconst 1) 1 := dop_4 (dn_w dw150_3 2 rfl)
theorem dX9_catches_51 : DE cX9_catches 51 (.goto 4) 3 := dop_167 (dn_w dw150_3 3 rfl) rfl
theorem dX9_catches_54 : DE cX9_catches 54 (.iconst 0) 1 := dop_3 (dn_w dw150_3 6 rfl)
theorem dX9_catches_55 : DE cX9_catches 55 (.iadd) 1 := dop_96 (dn_w dw150_3 7 rfl)
theorem dX9_catches_56 : DE cX9_catches 56 (.istore_n 3) 1 := dop_62 (dn_w dw150_3 8 rfl)
theorem dX9_catches_57 : DE cX9_catches 57 (.iinc 4 1) 3 := dop_132 (dn_w dw150_3 9 rfl) rfl
theorem dX9_catches_60 : DE cX9_catches 60 (.iinc 5 1) 3 := dop_132 (dn_w dw150_3 12 rfl) rfl
theorem dX9_catches_63 : DE cX9_catches 63 (.goto (-55)) 3 := dop_167 (dn_w dw150_3 15 rfl) rfl
theorem dX9_catches_66 : DE cX9_catches 66 (.iload_n 3) 1 := dop_29 (dn_w dw150_4 2 rfl)
theorem dX9_catches_67 : DE cX9_catches 67 (.aload_n 0) 1 := dop_42 (dn_w dw150_4 3 rfl)
theorem dX9_catches_68 : DE cX9_catches 68 (.getfield 25) 3 := dop_180 (dn_w dw150_4 4 rfl) rfl
theorem dX9_catches_71 : DE cX9_catches 71 (.iconst 2) 1 := dop_5 (dn_w dw150_4 7 rfl)
theorem dX9_catches_72 : DE cX9_catches 72 (.iaload) 1 := dop_46 (dn_w dw150_4 8 rfl)
theorem dX9_catches_73 : DE cX9_catches 73 (.if_icmp .ge 9) 3 := dop_162 (dn_w dw150_4 9 rfl) rfl
theorem dX9_catches_76 : DE cX9_catches 76 (.iload 4) 2 := dop_21 (dn_w dw150_4 12 rfl)
theorem dX9_catches_78 : DE cX9_catches 78 (.iconst 4) 1 := dop_7 (dn_w dw150_4 14 rfl)
theorem dX9_catches_79 : DE cX9_catches 79 (.if_icmp .lt 7) 3 := dop_161 (dn_w dw150_4 15 rfl) rfl
theorem dX9_catches_82 : DE cX9_catches 82 (.iconst 1) 1 := dop_4 (dn_w dw150_5 2 rfl)
theorem dX9_catches_83 : DE cX9_catches 83 (.goto 4) 3 := dop_167 (dn_w dw150_5 3 rfl) rfl
theorem dX9_catches_86 : DE cX9_catches 86 (.iconst 0) 1 := dop_3 (dn_w dw150_5 6 rfl)
theorem dX9_catches_87 : DE cX9_catches 87 (.ireturn) 1 := dop_172 (dn_w dw150_5 7 rfl)
noncomputable def dt151_2 : List Nat := 167 :: 0 :: 4 :: 3 :: 128 :: 60 :: 132 :: 2 :: 1 :: 167 :: 255 :: 219 :: 27 :: 172 :: []
noncomputable def dt151_1 : List Nat := 13 :: 42 :: 180 :: 0 :: 222 :: 4 :: 96 :: 28 :: 96 :: 46 :: 158 :: 0 :: 9 :: 4 :: 28 :: 120 :: dt151_2
noncomputable def dt151_0 : List Nat := 3 :: 60 :: 3 :: 61 :: 28 :: 42 :: 180 :: 0 :: 91 :: 162 :: 0 :: 35 :: 27 :: 42 :: 180 :: 0 :: dt151_1
theorem dw151_0 : dn cX9_sickSet 0 = dt151_0 := by decide +kernel
theorem dw151_1 : dn cX9_sickSet 16 = dt151_1 := dn_w dw151_0 16 rfl
theorem dw151_2 : dn cX9_sickSet 32 = dt151_2 := dn_w dw151_1 16 rfl
theorem dX9_sickSet_0 : DE cX9_sickSet 0 (.iconst 0) 1 := dop_3 (dn_w dw151_0 0 rfl)
theorem dX9_sickSet_1 : DE cX9_sickSet 1 (.istore_n 1) 1 := dop_60 (dn_w dw151_0 1 rfl)
theorem dX9_sickSet_2 : DE cX9_sickSet 2 (.iconst 0) 1 := dop_3 (dn_w dw151_0 2 rfl)
theorem dX9_sickSet_3 : DE cX9_sickSet 3 (.istore_n 2) 1 := dop_61 (dn_w dw151_0 3 rfl)
theorem dX9_sickSet_4 : DE cX9_sickSet 4 (.iload_n 2) 1 := dop_28 (dn_w dw151_0 4 rfl)
theorem dX9_sickSet_5 : DE cX9_sickSet 5 (.aload_n 0) 1 := dop_42 (dn_w dw151_0 5 rfl)
theorem dX9_sickSet_6 : DE cX9_sickSet 6 (.getfield 91) 3 := dop_180 (dn_w dw151_0 6 rfl) rfl
theorem dX9_sickSet_9 : DE cX9_sickSet 9 (.if_icmp .ge 35) 3 := dop_162 (dn_w dw151_0 9 rfl) rfl
theorem dX9_sickSet_12 : DE cX9_sickSet 12 (.iload_n 1) 1 := dop_27 (dn_w dw151_0 12 rfl)
theorem dX9_sickSet_13 : DE cX9_sickSet 13 (.aload_n 0) 1 := dop_42 (dn_w dw151_0 13 rfl)
theorem dX9_sickSet_14 : DE cX9_sickSet 14 (.getfield 13) 3 := dop_180 (dn_w dw151_0 14 rfl) rfl
theorem dX9_sickSet_17 : DE cX9_sickSet 17 (.aload_n 0) 1 := dop_42 (dn_w dw151_1 1 rfl)
theorem dX9_sickSet_18 : DE cX9_sickSet 18 (.getfield 222) 3 := dop_180 (dn_w dw151_1 2 rfl) rfl
theorem dX9_sickSet_21 : DE cX9_sickSet 21 (.iconst 1) 1 := dop_4 (dn_w dw151_1 5 rfl)
theorem dX9_sickSet_22 : DE cX9_sickSet 22 (.iadd) 1 := dop_96 (dn_w dw151_1 6 rfl)
theorem dX9_sickSet_23 : DE cX9_sickSet 23 (.iload_n 2) 1 := dop_28 (dn_w dw151_1 7 rfl)
theorem dX9_sickSet_24 : DE cX9_sickSet 24 (.iadd) 1 := dop_96 (dn_w dw151_1 8 rfl)
theorem dX9_sickSet_25 : DE cX9_sickSet 25 (.iaload) 1 := dop_46 (dn_w dw151_1 9 rfl)
theorem dX9_sickSet_26 : DE cX9_sickSet 26 (.ifCond .le 9) 3 := dop_158 (dn_w dw151_1 10 rfl) rfl
theorem dX9_sickSet_29 : DE cX9_sickSet 29 (.iconst 1) 1 := dop_4 (dn_w dw151_1 13 rfl)
theorem dX9_sickSet_30 : DE cX9_sickSet 30 (.iload_n 2) 1 := dop_28 (dn_w dw151_1 14 rfl)
theorem dX9_sickSet_31 : DE cX9_sickSet 31 (.ishl) 1 := dop_120 (dn_w dw151_1 15 rfl)
theorem dX9_sickSet_32 : DE cX9_sickSet 32 (.goto 4) 3 := dop_167 (dn_w dw151_2 0 rfl) rfl
theorem dX9_sickSet_35 : DE cX9_sickSet 35 (.iconst 0) 1 := dop_3 (dn_w dw151_2 3 rfl)
theorem dX9_sickSet_36 : DE cX9_sickSet 36 (.ior) 1 := dop_128 (dn_w dw151_2 4 rfl)
theorem dX9_sickSet_37 : DE cX9_sickSet 37 (.istore_n 1) 1 := dop_60 (dn_w dw151_2 5 rfl)
theorem dX9_sickSet_38 : DE cX9_sickSet 38 (.iinc 2 1) 3 := dop_132 (dn_w dw151_2 6 rfl) rfl
theorem dX9_sickSet_41 : DE cX9_sickSet 41 (.goto (-37)) 3 := dop_167 (dn_w dw151_2 9 rfl) rfl
theorem dX9_sickSet_44 : DE cX9_sickSet 44 (.iload_n 1) 1 := dop_27 (dn_w dw151_2 12 rfl)
theorem dX9_sickSet_45 : DE cX9_sickSet 45 (.ireturn) 1 := dop_172 (dn_w dw151_2 13 rfl)
noncomputable def dt152_16 : List Nat := 4 :: 96 :: 79 :: 27 :: 172 :: []
noncomputable def dt152_15 : List Nat := 132 :: 3 :: 1 :: 167 :: 255 :: 191 :: 42 :: 180 :: 0 :: 13 :: 42 :: 180 :: 0 :: 222 :: 92 :: 46 :: dt152_16
noncomputable def dt152_14 : List Nat := 13 :: 42 :: 180 :: 0 :: 222 :: 4 :: 96 :: 29 :: 96 :: 42 :: 180 :: 0 :: 25 :: 6 :: 46 :: 79 :: dt152_15
noncomputable def dt152_13 : List Nat := 46 :: 154 :: 0 :: 31 :: 42 :: 29 :: 28 :: 182 :: 0 :: 235 :: 153 :: 0 :: 22 :: 42 :: 180 :: 0 :: dt152_14
noncomputable def dt152_12 : List Nat := 8 :: 160 :: 0 :: 47 :: 42 :: 180 :: 0 :: 13 :: 42 :: 180 :: 0 :: 222 :: 4 :: 96 :: 29 :: 96 :: dt152_13
noncomputable def dt152_11 : List Nat := 3 :: 62 :: 29 :: 42 :: 180 :: 0 :: 91 :: 162 :: 0 :: 63 :: 42 :: 29 :: 3 :: 182 :: 0 :: 209 :: dt152_12
noncomputable def dt152_10 : List Nat := 158 :: 0 :: 7 :: 4 :: 167 :: 0 :: 4 :: 3 :: 100 :: 79 :: 132 :: 3 :: 1 :: 167 :: 255 :: 126 :: dt152_11
noncomputable def dt152_9 : List Nat := 92 :: 46 :: 42 :: 180 :: 0 :: 13 :: 42 :: 180 :: 0 :: 222 :: 16 :: 9 :: 96 :: 29 :: 96 :: 46 :: dt152_10
noncomputable def dt152_8 : List Nat := 3 :: 100 :: 79 :: 42 :: 180 :: 0 :: 13 :: 42 :: 180 :: 0 :: 222 :: 16 :: 9 :: 96 :: 29 :: 96 :: dt152_9
noncomputable def dt152_7 : List Nat := 42 :: 180 :: 0 :: 222 :: 4 :: 96 :: 29 :: 96 :: 46 :: 158 :: 0 :: 7 :: 4 :: 167 :: 0 :: 4 :: dt152_8
noncomputable def dt152_6 : List Nat := 0 :: 13 :: 42 :: 180 :: 0 :: 222 :: 4 :: 96 :: 29 :: 96 :: 92 :: 46 :: 42 :: 180 :: 0 :: 13 :: dt152_7
noncomputable def dt152_5 : List Nat := 13 :: 42 :: 180 :: 0 :: 222 :: 16 :: 17 :: 96 :: 29 :: 96 :: 46 :: 4 :: 96 :: 79 :: 42 :: 180 :: dt152_6
noncomputable def dt152_4 : List Nat := 27 :: 29 :: 122 :: 4 :: 126 :: 4 :: 160 :: 0 :: 7 :: 3 :: 167 :: 0 :: 19 :: 42 :: 180 :: 0 :: dt152_5
noncomputable def dt152_3 : List Nat := 162 :: 0 :: 128 :: 42 :: 180 :: 0 :: 13 :: 42 :: 180 :: 0 :: 222 :: 16 :: 17 :: 96 :: 29 :: 96 :: dt152_4
noncomputable def dt152_2 : List Nat := 120 :: 128 :: 60 :: 132 :: 3 :: 1 :: 167 :: 255 :: 227 :: 3 :: 62 :: 29 :: 42 :: 180 :: 0 :: 91 :: dt152_3
noncomputable def dt152_1 : List Nat := 27 :: 27 :: 42 :: 29 :: 182 :: 0 :: 229 :: 153 :: 0 :: 7 :: 3 :: 167 :: 0 :: 6 :: 4 :: 29 :: dt152_2
noncomputable def dt152_0 : List Nat := 3 :: 60 :: 42 :: 182 :: 0 :: 232 :: 61 :: 3 :: 62 :: 29 :: 42 :: 180 :: 0 :: 91 :: 162 :: 0 :: dt152_1
theorem dw152_0 : dn cX9_dayGoes 0 = dt152_0 := by decide +kernel
theorem dw152_1 : dn cX9_dayGoes 16 = dt152_1 := dn_w dw152_0 16 rfl
theorem dw152_2 : dn cX9_dayGoes 32 = dt152_2 := dn_w dw152_1 16 rfl
theorem dw152_3 : dn cX9_dayGoes 48 = dt152_3 := dn_w dw152_2 16 rfl
theorem dw152_4 : dn cX9_dayGoes 64 = dt152_4 := dn_w dw152_3 16 rfl
theorem dw152_5 : dn cX9_dayGoes 80 = dt152_5 := dn_w dw152_4 16 rfl
theorem dw152_6 : dn cX9_dayGoes 96 = dt152_6 := dn_w dw152_5 16 rfl
theorem dw152_7 : dn cX9_dayGoes 112 = dt152_7 := dn_w dw152_6 16 rfl
theorem dw152_8 : dn cX9_dayGoes 128 = dt152_8 := dn_w dw152_7 16 rfl
theorem dw152_9 : dn cX9_dayGoes 144 = dt152_9 := dn_w dw152_8 16 rfl
theorem dw152_10 : dn cX9_dayGoes 160 = dt152_10 := dn_w dw152_9 16 rfl
theorem dw152_11 : dn cX9_dayGoes 176 = dt152_11 := dn_w dw152_10 16 rfl
theorem dw152_12 : dn cX9_dayGoes 192 = dt152_12 := dn_w dw152_11 16 rfl
theorem dw152_13 : dn cX9_dayGoes 208 = dt152_13 := dn_w dw152_12 16 rfl
theorem dw152_14 : dn cX9_dayGoes 224 = dt152_14 := dn_w dw152_13 16 rfl
theorem dw152_15 : dn cX9_dayGoes 240 = dt152_15 := dn_w dw152_14 16 rfl
theorem dw152_16 : dn cX9_dayGoes 256 = dt152_16 := dn_w dw152_15 16 rfl
theorem dX9_dayGoes_0 : DE cX9_dayGoes 0 (.iconst 0) 1 := dop_3 (dn_w dw152_0 0 rfl)
theorem dX9_dayGoes_1 : DE cX9_dayGoes 1 (.istore_n 1) 1 := dop_60 (dn_w dw152_0 1 rfl)
theorem dX9_dayGoes_2 : DE cX9_dayGoes 2 (.aload_n 0) 1 := dop_42 (dn_w dw152_0 2 rfl)
theorem dX9_dayGoes_3 : DE cX9_dayGoes 3 (.invokevirtual 232) 3 := dop_182 (dn_w dw152_0 3 rfl) rfl
theorem dX9_dayGoes_6 : DE cX9_dayGoes 6 (.istore_n 2) 1 := dop_61 (dn_w dw152_0 6 rfl)
theorem dX9_dayGoes_7 : DE cX9_dayGoes 7 (.iconst 0) 1 := dop_3 (dn_w dw152_0 7 rfl)
theorem dX9_dayGoes_8 : DE cX9_dayGoes 8 (.istore_n 3) 1 := dop_62 (dn_w dw152_0 8 rfl)
theorem dX9_dayGoes_9 : DE cX9_dayGoes 9 (.iload_n 3) 1 := dop_29 (dn_w dw152_0 9 rfl)
theorem dX9_dayGoes_10 : DE cX9_dayGoes 10 (.aload_n 0) 1 := dop_42 (dn_w dw152_0 10 rfl)
theorem dX9_dayGoes_11 : DE cX9_dayGoes 11 (.getfield 91) 3 := dop_180 (dn_w dw152_0 11 rfl) rfl
theorem dX9_dayGoes_14 : DE cX9_dayGoes 14 (.if_icmp .ge 27) 3 := dop_162 (dn_w dw152_0 14 rfl) rfl
theorem dX9_dayGoes_17 : DE cX9_dayGoes 17 (.iload_n 1) 1 := dop_27 (dn_w dw152_1 1 rfl)
theorem dX9_dayGoes_18 : DE cX9_dayGoes 18 (.aload_n 0) 1 := dop_42 (dn_w dw152_1 2 rfl)
theorem dX9_dayGoes_19 : DE cX9_dayGoes 19 (.iload_n 3) 1 := dop_29 (dn_w dw152_1 3 rfl)
theorem dX9_dayGoes_20 : DE cX9_dayGoes 20 (.invokevirtual 229) 3 := dop_182 (dn_w dw152_1 4 rfl) rfl
theorem dX9_dayGoes_23 : DE cX9_dayGoes 23 (.ifCond .eq 7) 3 := dop_153 (dn_w dw152_1 7 rfl) rfl
theorem dX9_dayGoes_26 : DE cX9_dayGoes 26 (.iconst 0) 1 := dop_3 (dn_w dw152_1 10 rfl)
theorem dX9_dayGoes_27 : DE cX9_dayGoes 27 (.goto 6) 3 := dop_167 (dn_w dw152_1 11 rfl) rfl
theorem dX9_dayGoes_30 : DE cX9_dayGoes 30 (.iconst 1) 1 := dop_4 (dn_w dw152_1 14 rfl)
theorem dX9_dayGoes_31 : DE cX9_dayGoes 31 (.iload_n 3) 1 := dop_29 (dn_w dw152_1 15 rfl)
theorem dX9_dayGoes_32 : DE cX9_dayGoes 32 (.ishl) 1 := dop_120 (dn_w dw152_2 0 rfl)
theorem dX9_dayGoes_33 : DE cX9_dayGoes 33 (.ior) 1 := dop_128 (dn_w dw152_2 1 rfl)
theorem dX9_dayGoes_34 : DE cX9_dayGoes 34 (.istore_n 1) 1 := dop_60 (dn_w dw152_2 2 rfl)
theorem dX9_dayGoes_35 : DE cX9_dayGoes 35 (.iinc 3 1) 3 := dop_132 (dn_w dw152_2 3 rfl) rfl
theorem dX9_dayGoes_38 : DE cX9_dayGoes 38 (.goto (-29)) 3 := dop_167 (dn_w dw152_2 6 rfl) rfl
theorem dX9_dayGoes_41 : DE cX9_dayGoes 41 (.iconst 0) 1 := dop_3 (dn_w dw152_2 9 rfl)
theorem dX9_dayGoes_42 : DE cX9_dayGoes 42 (.istore_n 3) 1 := dop_62 (dn_w dw152_2 10 rfl)
theorem dX9_dayGoes_43 : DE cX9_dayGoes 43 (.iload_n 3) 1 := dop_29 (dn_w dw152_2 11 rfl)
theorem dX9_dayGoes_44 : DE cX9_dayGoes 44 (.aload_n 0) 1 := dop_42 (dn_w dw152_2 12 rfl)
theorem dX9_dayGoes_45 : DE cX9_dayGoes 45 (.getfield 91) 3 := dop_180 (dn_w dw152_2 13 rfl) rfl
theorem dX9_dayGoes_48 : DE cX9_dayGoes 48 (.if_icmp .ge 128) 3 := dop_162 (dn_w dw152_3 0 rfl) rfl
theorem dX9_dayGoes_51 : DE cX9_dayGoes 51 (.aload_n 0) 1 := dop_42 (dn_w dw152_3 3 rfl)
theorem dX9_dayGoes_52 : DE cX9_dayGoes 52 (.getfield 13) 3 := dop_180 (dn_w dw152_3 4 rfl) rfl
theorem dX9_dayGoes_55 : DE cX9_dayGoes 55 (.aload_n 0) 1 := dop_42 (dn_w dw152_3 7 rfl)
theorem dX9_dayGoes_56 : DE cX9_dayGoes 56 (.getfield 222) 3 := dop_180 (dn_w dw152_3 8 rfl) rfl
theorem dX9_dayGoes_59 : DE cX9_dayGoes 59 (.bipush 17) 2 := dop_16 (dn_w dw152_3 11 rfl) rfl
theorem dX9_dayGoes_61 : DE cX9_dayGoes 61 (.iadd) 1 := dop_96 (dn_w dw152_3 13 rfl)
theorem dX9_dayGoes_62 : DE cX9_dayGoes 62 (.iload_n 3) 1 := dop_29 (dn_w dw152_3 14 rfl)
theorem dX9_dayGoes_63 : DE cX9_dayGoes 63 (.iadd) 1 := dop_96 (dn_w dw152_3 15 rfl)
theorem dX9_dayGoes_64 : DE cX9_dayGoes 64 (.iload_n 1) 1 := dop_27 (dn_w dw152_4 0 rfl)
theorem dX9_dayGoes_65 : DE cX9_dayGoes 65 (.iload_n 3) 1 := dop_29 (dn_w dw152_4 1 rfl)
theorem dX9_dayGoes_66 : DE cX9_dayGoes 66 (.ishr) 1 := dop_122 (dn_w dw152_4 2 rfl)
theorem dX9_dayGoes_67 : DE cX9_dayGoes 67 (.iconst 1) 1 := dop_4 (dn_w dw152_4 3 rfl)
theorem dX9_dayGoes_68 : DE cX9_dayGoes 68 (.iand) 1 := dop_126 (dn_w dw152_4 4 rfl)
theorem dX9_dayGoes_69 : DE cX9_dayGoes 69 (.iconst 1) 1 := dop_4 (dn_w dw152_4 5 rfl)
theorem dX9_dayGoes_70 : DE cX9_dayGoes 70 (.if_icmp .ne 7) 3 := dop_160 (dn_w dw152_4 6 rfl) rfl
theorem dX9_dayGoes_73 : DE cX9_dayGoes 73 (.iconst 0) 1 := dop_3 (dn_w dw152_4 9 rfl)
theorem dX9_dayGoes_74 : DE cX9_dayGoes 74 (.goto 19) 3 := dop_167 (dn_w dw152_4 10 rfl) rfl
theorem dX9_dayGoes_77 : DE cX9_dayGoes 77 (.aload_n 0) 1 := dop_42 (dn_w dw152_4 13 rfl)
theorem dX9_dayGoes_78 : DE cX9_dayGoes 78 (.getfield 13) 3 := dop_180 (dn_w dw152_4 14 rfl) rfl
theorem dX9_dayGoes_81 : DE cX9_dayGoes 81 (.aload_n 0) 1 := dop_42 (dn_w dw152_5 1 rfl)
theorem dX9_dayGoes_82 : DE cX9_dayGoes 82 (.getfield 222) 3 := dop_180 (dn_w dw152_5 2 rfl) rfl
theorem dX9_dayGoes_85 : DE cX9_dayGoes 85 (.bipush 17) 2 := dop_16 (dn_w dw152_5 5 rfl) rfl
theorem dX9_dayGoes_87 : DE cX9_dayGoes 87 (.iadd) 1 := dop_96 (dn_w dw152_5 7 rfl)
theorem dX9_dayGoes_88 : DE cX9_dayGoes 88 (.iload_n 3) 1 := dop_29 (dn_w dw152_5 8 rfl)
theorem dX9_dayGoes_89 : DE cX9_dayGoes 89 (.iadd) 1 := dop_96 (dn_w dw152_5 9 rfl)
theorem dX9_dayGoes_90 : DE cX9_dayGoes 90 (.iaload) 1 := dop_46 (dn_w dw152_5 10 rfl)
theorem dX9_dayGoes_91 : DE cX9_dayGoes 91 (.iconst 1) 1 := dop_4 (dn_w dw152_5 11 rfl)
theorem dX9_dayGoes_92 : DE cX9_dayGoes 92 (.iadd) 1 := dop_96 (dn_w dw152_5 12 rfl)
theorem dX9_dayGoes_93 : DE cX9_dayGoes 93 (.iastore) 1 := dop_79 (dn_w dw152_5 13 rfl)
theorem dX9_dayGoes_94 : DE cX9_dayGoes 94 (.aload_n 0) 1 := dop_42 (dn_w dw152_5 14 rfl)
theorem dX9_dayGoes_95 : DE cX9_dayGoes 95 (.getfield 13) 3 := dop_180 (dn_w dw152_5 15 rfl) rfl
theorem dX9_dayGoes_98 : DE cX9_dayGoes 98 (.aload_n 0) 1 := dop_42 (dn_w dw152_6 2 rfl)
theorem dX9_dayGoes_99 : DE cX9_dayGoes 99 (.getfield 222) 3 := dop_180 (dn_w dw152_6 3 rfl) rfl
theorem dX9_dayGoes_102 : DE cX9_dayGoes 102 (.iconst 1) 1 := dop_4 (dn_w dw152_6 6 rfl)
theorem dX9_dayGoes_103 : DE cX9_dayGoes 103 (.iadd) 1 := dop_96 (dn_w dw152_6 7 rfl)
theorem dX9_dayGoes_104 : DE cX9_dayGoes 104 (.iload_n 3) 1 := dop_29 (dn_w dw152_6 8 rfl)
theorem dX9_dayGoes_105 : DE cX9_dayGoes 105 (.iadd) 1 := dop_96 (dn_w dw152_6 9 rfl)
theorem dX9_dayGoes_106 : DE cX9_dayGoes 106 (.dup2) 1 := dop_92 (dn_w dw152_6 10 rfl)
theorem dX9_dayGoes_107 : DE cX9_dayGoes 107 (.iaload) 1 := dop_46 (dn_w dw152_6 11 rfl)
theorem dX9_dayGoes_108 : DE cX9_dayGoes 108 (.aload_n 0) 1 := dop_42 (dn_w dw152_6 12 rfl)
theorem dX9_dayGoes_109 : DE cX9_dayGoes 109 (.getfield 13) 3 := dop_180 (dn_w dw152_6 13 rfl) rfl
theorem dX9_dayGoes_112 : DE cX9_dayGoes 112 (.aload_n 0) 1 := dop_42 (dn_w dw152_7 0 rfl)
theorem dX9_dayGoes_113 : DE cX9_dayGoes 113 (.getfield 222) 3 := dop_180 (dn_w dw152_7 1 rfl) rfl
theorem dX9_dayGoes_116 : DE cX9_dayGoes 116 (.iconst 1) 1 := dop_4 (dn_w dw152_7 4 rfl)
theorem dX9_dayGoes_117 : DE cX9_dayGoes 117 (.iadd) 1 := dop_96 (dn_w dw152_7 5 rfl)
theorem dX9_dayGoes_118 : DE cX9_dayGoes 118 (.iload_n 3) 1 := dop_29 (dn_w dw152_7 6 rfl)
theorem dX9_dayGoes_119 : DE cX9_dayGoes 119 (.iadd) 1 := dop_96 (dn_w dw152_7 7 rfl)
theorem dX9_dayGoes_120 : DE cX9_dayGoes 120 (.iaload) 1 := dop_46 (dn_w dw152_7 8 rfl)
theorem dX9_dayGoes_121 : DE cX9_dayGoes 121 (.ifCond .le 7) 3 := dop_158 (dn_w dw152_7 9 rfl) rfl
theorem dX9_dayGoes_124 : DE cX9_dayGoes 124 (.iconst 1) 1 := dop_4 (dn_w dw152_7 12 rfl)
theorem dX9_dayGoes_125 : DE cX9_dayGoes 125 (.goto 4) 3 := dop_167 (dn_w dw152_7 13 rfl) rfl
theorem dX9_dayGoes_128 : DE cX9_dayGoes 128 (.iconst 0) 1 := dop_3 (dn_w dw152_8 0 rfl)
theorem dX9_dayGoes_129 : DE cX9_dayGoes 129 (.isub) 1 := dop_100 (dn_w dw152_8 1 rfl)
theorem dX9_dayGoes_130 : DE cX9_dayGoes 130 (.iastore) 1 := dop_79 (dn_w dw152_8 2 rfl)
theorem dX9_dayGoes_131 : DE cX9_dayGoes 131 (.aload_n 0) 1 := dop_42 (dn_w dw152_8 3 rfl)
theorem dX9_dayGoes_132 : DE cX9_dayGoes 132 (.getfield 13) 3 := dop_180 (dn_w dw152_8 4 rfl) rfl
theorem dX9_dayGoes_135 : DE cX9_dayGoes 135 (.aload_n 0) 1 := dop_42 (dn_w dw152_8 7 rfl)
theorem dX9_dayGoes_136 : DE cX9_dayGoes 136 (.getfield 222) 3 := dop_180 (dn_w dw152_8 8 rfl) rfl
theorem dX9_dayGoes_139 : DE cX9_dayGoes 139 (.bipush 9) 2 := dop_16 (dn_w dw152_8 11 rfl) rfl
theorem dX9_dayGoes_141 : DE cX9_dayGoes 141 (.iadd) 1 := dop_96 (dn_w dw152_8 13 rfl)
theorem dX9_dayGoes_142 : DE cX9_dayGoes 142 (.iload_n 3) 1 := dop_29 (dn_w dw152_8 14 rfl)
theorem dX9_dayGoes_143 : DE cX9_dayGoes 143 (.iadd) 1 := dop_96 (dn_w dw152_8 15 rfl)
theorem dX9_dayGoes_144 : DE cX9_dayGoes 144 (.dup2) 1 := dop_92 (dn_w dw152_9 0 rfl)
theorem dX9_dayGoes_145 : DE cX9_dayGoes 145 (.iaload) 1 := dop_46 (dn_w dw152_9 1 rfl)
theorem dX9_dayGoes_146 : DE cX9_dayGoes 146 (.aload_n 0) 1 := dop_42 (dn_w dw152_9 2 rfl)
theorem dX9_dayGoes_147 : DE cX9_dayGoes 147 (.getfield 13) 3 := dop_180 (dn_w dw152_9 3 rfl) rfl
theorem dX9_dayGoes_150 : DE cX9_dayGoes 150 (.aload_n 0) 1 := dop_42 (dn_w dw152_9 6 rfl)
theorem dX9_dayGoes_151 : DE cX9_dayGoes 151 (.getfield 222) 3 := dop_180 (dn_w dw152_9 7 rfl) rfl
theorem dX9_dayGoes_154 : DE cX9_dayGoes 154 (.bipush 9) 2 := dop_16 (dn_w dw152_9 10 rfl) rfl
theorem dX9_dayGoes_156 : DE cX9_dayGoes 156 (.iadd) 1 := dop_96 (dn_w dw152_9 12 rfl)
theorem dX9_dayGoes_157 : DE cX9_dayGoes 157 (.iload_n 3) 1 := dop_29 (dn_w dw152_9 13 rfl)
theorem dX9_dayGoes_158 : DE cX9_dayGoes 158 (.iadd) 1 := dop_96 (dn_w dw152_9 14 rfl)
theorem dX9_dayGoes_159 : DE cX9_dayGoes 159 (.iaload) 1 := dop_46 (dn_w dw152_9 15 rfl)
theorem dX9_dayGoes_160 : DE cX9_dayGoes 160 (.ifCond .le 7) 3 := dop_158 (dn_w dw152_10 0 rfl) rfl
theorem dX9_dayGoes_163 : DE cX9_dayGoes 163 (.iconst 1) 1 := dop_4 (dn_w dw152_10 3 rfl)
theorem dX9_dayGoes_164 : DE cX9_dayGoes 164 (.goto 4) 3 := dop_167 (dn_w dw152_10 4 rfl) rfl
theorem dX9_dayGoes_167 : DE cX9_dayGoes 167 (.iconst 0) 1 := dop_3 (dn_w dw152_10 7 rfl)
theorem dX9_dayGoes_168 : DE cX9_dayGoes 168 (.isub) 1 := dop_100 (dn_w dw152_10 8 rfl)
theorem dX9_dayGoes_169 : DE cX9_dayGoes 169 (.iastore) 1 := dop_79 (dn_w dw152_10 9 rfl)
theorem dX9_dayGoes_170 : DE cX9_dayGoes 170 (.iinc 3 1) 3 := dop_132 (dn_w dw152_10 10 rfl) rfl
theorem dX9_dayGoes_173 : DE cX9_dayGoes 173 (.goto (-130)) 3 := dop_167 (dn_w dw152_10 13 rfl) rfl
theorem dX9_dayGoes_176 : DE cX9_dayGoes 176 (.iconst 0) 1 := dop_3 (dn_w dw152_11 0 rfl)
theorem dX9_dayGoes_177 : DE cX9_dayGoes 177 (.istore_n 3) 1 := dop_62 (dn_w dw152_11 1 rfl)
theorem dX9_dayGoes_178 : DE cX9_dayGoes 178 (.iload_n 3) 1 := dop_29 (dn_w dw152_11 2 rfl)
theorem dX9_dayGoes_179 : DE cX9_dayGoes 179 (.aload_n 0) 1 := dop_42 (dn_w dw152_11 3 rfl)
theorem dX9_dayGoes_180 : DE cX9_dayGoes 180 (.getfield 91) 3 := dop_180 (dn_w dw152_11 4 rfl) rfl
theorem dX9_dayGoes_183 : DE cX9_dayGoes 183 (.if_icmp .ge 63) 3 := dop_162 (dn_w dw152_11 7 rfl) rfl
theorem dX9_dayGoes_186 : DE cX9_dayGoes 186 (.aload_n 0) 1 := dop_42 (dn_w dw152_11 10 rfl)
theorem dX9_dayGoes_187 : DE cX9_dayGoes 187 (.iload_n 3) 1 := dop_29 (dn_w dw152_11 11 rfl)
theorem dX9_dayGoes_188 : DE cX9_dayGoes 188 (.iconst 0) 1 := dop_3 (dn_w dw152_11 12 rfl)
theorem dX9_dayGoes_189 : DE cX9_dayGoes 189 (.invokevirtual 209) 3 := dop_182 (dn_w dw152_11 13 rfl) rfl
theorem dX9_dayGoes_192 : DE cX9_dayGoes 192 (.iconst 5) 1 := dop_8 (dn_w dw152_12 0 rfl)
theorem dX9_dayGoes_193 : DE cX9_dayGoes 193 (.if_icmp .ne 47) 3 := dop_160 (dn_w dw152_12 1 rfl) rfl
theorem dX9_dayGoes_196 : DE cX9_dayGoes 196 (.aload_n 0) 1 := dop_42 (dn_w dw152_12 4 rfl)
theorem dX9_dayGoes_197 : DE cX9_dayGoes 197 (.getfield 13) 3 := dop_180 (dn_w dw152_12 5 rfl) rfl
theorem dX9_dayGoes_200 : DE cX9_dayGoes 200 (.aload_n 0) 1 := dop_42 (dn_w dw152_12 8 rfl)
theorem dX9_dayGoes_201 : DE cX9_dayGoes 201 (.getfield 222) 3 := dop_180 (dn_w dw152_12 9 rfl) rfl
theorem dX9_dayGoes_204 : DE cX9_dayGoes 204 (.iconst 1) 1 := dop_4 (dn_w dw152_12 12 rfl)
theorem dX9_dayGoes_205 : DE cX9_dayGoes 205 (.iadd) 1 := dop_96 (dn_w dw152_12 13 rfl)
theorem dX9_dayGoes_206 : DE cX9_dayGoes 206 (.iload_n 3) 1 := dop_29 (dn_w dw152_12 14 rfl)
theorem dX9_dayGoes_207 : DE cX9_dayGoes 207 (.iadd) 1 := dop_96 (dn_w dw152_12 15 rfl)
theorem dX9_dayGoes_208 : DE cX9_dayGoes 208 (.iaload) 1 := dop_46 (dn_w dw152_13 0 rfl)
theorem dX9_dayGoes_209 : DE cX9_dayGoes 209 (.ifCond .ne 31) 3 := dop_154 (dn_w dw152_13 1 rfl) rfl
theorem dX9_dayGoes_212 : DE cX9_dayGoes 212 (.aload_n 0) 1 := dop_42 (dn_w dw152_13 4 rfl)
theorem dX9_dayGoes_213 : DE cX9_dayGoes 213 (.iload_n 3) 1 := dop_29 (dn_w dw152_13 5 rfl)
theorem dX9_dayGoes_214 : DE cX9_dayGoes 214 (.iload_n 2) 1 := dop_28 (dn_w dw152_13 6 rfl)
theorem dX9_dayGoes_215 : DE cX9_dayGoes 215 (.invokevirtual 235) 3 := dop_182 (dn_w dw152_13 7 rfl) rfl
theorem dX9_dayGoes_218 : DE cX9_dayGoes 218 (.ifCond .eq 22) 3 := dop_153 (dn_w dw152_13 10 rfl) rfl
theorem dX9_dayGoes_221 : DE cX9_dayGoes 221 (.aload_n 0) 1 := dop_42 (dn_w dw152_13 13 rfl)
theorem dX9_dayGoes_222 : DE cX9_dayGoes 222 (.getfield 13) 3 := dop_180 (dn_w dw152_13 14 rfl) rfl
theorem dX9_dayGoes_225 : DE cX9_dayGoes 225 (.aload_n 0) 1 := dop_42 (dn_w dw152_14 1 rfl)
theorem dX9_dayGoes_226 : DE cX9_dayGoes 226 (.getfield 222) 3 := dop_180 (dn_w dw152_14 2 rfl) rfl
theorem dX9_dayGoes_229 : DE cX9_dayGoes 229 (.iconst 1) 1 := dop_4 (dn_w dw152_14 5 rfl)
theorem dX9_dayGoes_230 : DE cX9_dayGoes 230 (.iadd) 1 := dop_96 (dn_w dw152_14 6 rfl)
theorem dX9_dayGoes_231 : DE cX9_dayGoes 231 (.iload_n 3) 1 := dop_29 (dn_w dw152_14 7 rfl)
theorem dX9_dayGoes_232 : DE cX9_dayGoes 232 (.iadd) 1 := dop_96 (dn_w dw152_14 8 rfl)
theorem dX9_dayGoes_233 : DE cX9_dayGoes 233 (.aload_n 0) 1 := dop_42 (dn_w dw152_14 9 rfl)
theorem dX9_dayGoes_234 : DE cX9_dayGoes 234 (.getfield 25) 3 := dop_180 (dn_w dw152_14 10 rfl) rfl
theorem dX9_dayGoes_237 : DE cX9_dayGoes 237 (.iconst 3) 1 := dop_6 (dn_w dw152_14 13 rfl)
theorem dX9_dayGoes_238 : DE cX9_dayGoes 238 (.iaload) 1 := dop_46 (dn_w dw152_14 14 rfl)
theorem dX9_dayGoes_239 : DE cX9_dayGoes 239 (.iastore) 1 := dop_79 (dn_w dw152_14 15 rfl)
theorem dX9_dayGoes_240 : DE cX9_dayGoes 240 (.iinc 3 1) 3 := dop_132 (dn_w dw152_15 0 rfl) rfl
theorem dX9_dayGoes_243 : DE cX9_dayGoes 243 (.goto (-65)) 3 := dop_167 (dn_w dw152_15 3 rfl) rfl
theorem dX9_dayGoes_246 : DE cX9_dayGoes 246 (.aload_n 0) 1 := dop_42 (dn_w dw152_15 6 rfl)
theorem dX9_dayGoes_247 : DE cX9_dayGoes 247 (.getfield 13) 3 := dop_180 (dn_w dw152_15 7 rfl) rfl
theorem dX9_dayGoes_250 : DE cX9_dayGoes 250 (.aload_n 0) 1 := dop_42 (dn_w dw152_15 10 rfl)
theorem dX9_dayGoes_251 : DE cX9_dayGoes 251 (.getfield 222) 3 := dop_180 (dn_w dw152_15 11 rfl) rfl
theorem dX9_dayGoes_254 : DE cX9_dayGoes 254 (.dup2) 1 := dop_92 (dn_w dw152_15 14 rfl)
theorem dX9_dayGoes_255 : DE cX9_dayGoes 255 (.iaload) 1 := dop_46 (dn_w dw152_15 15 rfl)
theorem dX9_dayGoes_256 : DE cX9_dayGoes 256 (.iconst 1) 1 := dop_4 (dn_w dw152_16 0 rfl)
theorem dX9_dayGoes_257 : DE cX9_dayGoes 257 (.iadd) 1 := dop_96 (dn_w dw152_16 1 rfl)
theorem dX9_dayGoes_258 : DE cX9_dayGoes 258 (.iastore) 1 := dop_79 (dn_w dw152_16 2 rfl)
theorem dX9_dayGoes_259 : DE cX9_dayGoes 259 (.iload_n 1) 1 := dop_27 (dn_w dw152_16 3 rfl)
theorem dX9_dayGoes_260 : DE cX9_dayGoes 260 (.ireturn) 1 := dop_172 (dn_w dw152_16 4 rfl)
noncomputable def dt153_4 : List Nat := 208 :: 42 :: 180 :: 0 :: 13 :: 3 :: 46 :: 172 :: []
noncomputable def dt153_3 : List Nat := 21 :: 4 :: 79 :: 42 :: 180 :: 0 :: 22 :: 29 :: 21 :: 4 :: 79 :: 132 :: 2 :: 1 :: 167 :: 255 :: dt153_4
noncomputable def dt153_2 : List Nat := 0 :: 13 :: 3 :: 46 :: 62 :: 42 :: 182 :: 0 :: 238 :: 54 :: 4 :: 42 :: 180 :: 0 :: 19 :: 29 :: dt153_3
noncomputable def dt153_1 : List Nat := 162 :: 0 :: 49 :: 42 :: 180 :: 0 :: 13 :: 3 :: 46 :: 16 :: 40 :: 162 :: 0 :: 38 :: 42 :: 180 :: dt153_2
noncomputable def dt153_0 : List Nat := 27 :: 3 :: 16 :: 40 :: 184 :: 0 :: 87 :: 154 :: 0 :: 5 :: 2 :: 172 :: 3 :: 61 :: 28 :: 27 :: dt153_1
theorem dw153_0 : dn cX9_days 0 = dt153_0 := by decide +kernel
theorem dw153_1 : dn cX9_days 16 = dt153_1 := dn_w dw153_0 16 rfl
theorem dw153_2 : dn cX9_days 32 = dt153_2 := dn_w dw153_1 16 rfl
theorem dw153_3 : dn cX9_days 48 = dt153_3 := dn_w dw153_2 16 rfl
theorem dw153_4 : dn cX9_days 64 = dt153_4 := dn_w dw153_3 16 rfl
theorem dX9_days_0 : DE cX9_days 0 (.iload_n 1) 1 := dop_27 (dn_w dw153_0 0 rfl)
theorem dX9_days_1 : DE cX9_days 1 (.iconst 0) 1 := dop_3 (dn_w dw153_0 1 rfl)
theorem dX9_days_2 : DE cX9_days 2 (.bipush 40) 2 := dop_16 (dn_w dw153_0 2 rfl) rfl
theorem dX9_days_4 : DE cX9_days 4 (.invokestatic 87) 3 := dop_184 (dn_w dw153_0 4 rfl) rfl
theorem dX9_days_7 : DE cX9_days 7 (.ifCond .ne 5) 3 := dop_154 (dn_w dw153_0 7 rfl) rfl
theorem dX9_days_10 : DE cX9_days 10 (.iconst (-1)) 1 := dop_2 (dn_w dw153_0 10 rfl)
theorem dX9_days_11 : DE cX9_days 11 (.ireturn) 1 := dop_172 (dn_w dw153_0 11 rfl)
theorem dX9_days_12 : DE cX9_days 12 (.iconst 0) 1 := dop_3 (dn_w dw153_0 12 rfl)
theorem dX9_days_13 : DE cX9_days 13 (.istore_n 2) 1 := dop_61 (dn_w dw153_0 13 rfl)
theorem dX9_days_14 : DE cX9_days 14 (.iload_n 2) 1 := dop_28 (dn_w dw153_0 14 rfl)
theorem dX9_days_15 : DE cX9_days 15 (.iload_n 1) 1 := dop_27 (dn_w dw153_0 15 rfl)
theorem dX9_days_16 : DE cX9_days 16 (.if_icmp .ge 49) 3 := dop_162 (dn_w dw153_1 0 rfl) rfl
theorem dX9_days_19 : DE cX9_days 19 (.aload_n 0) 1 := dop_42 (dn_w dw153_1 3 rfl)
theorem dX9_days_20 : DE cX9_days 20 (.getfield 13) 3 := dop_180 (dn_w dw153_1 4 rfl) rfl
theorem dX9_days_23 : DE cX9_days 23 (.iconst 0) 1 := dop_3 (dn_w dw153_1 7 rfl)
theorem dX9_days_24 : DE cX9_days 24 (.iaload) 1 := dop_46 (dn_w dw153_1 8 rfl)
theorem dX9_days_25 : DE cX9_days 25 (.bipush 40) 2 := dop_16 (dn_w dw153_1 9 rfl) rfl
theorem dX9_days_27 : DE cX9_days 27 (.if_icmp .ge 38) 3 := dop_162 (dn_w dw153_1 11 rfl) rfl
theorem dX9_days_30 : DE cX9_days 30 (.aload_n 0) 1 := dop_42 (dn_w dw153_1 14 rfl)
theorem dX9_days_31 : DE cX9_days 31 (.getfield 13) 3 := dop_180 (dn_w dw153_1 15 rfl) rfl
theorem dX9_days_34 : DE cX9_days 34 (.iconst 0) 1 := dop_3 (dn_w dw153_2 2 rfl)
theorem dX9_days_35 : DE cX9_days 35 (.iaload) 1 := dop_46 (dn_w dw153_2 3 rfl)
theorem dX9_days_36 : DE cX9_days 36 (.istore_n 3) 1 := dop_62 (dn_w dw153_2 4 rfl)
theorem dX9_days_37 : DE cX9_days 37 (.aload_n 0) 1 := dop_42 (dn_w dw153_2 5 rfl)
theorem dX9_days_38 : DE cX9_days 38 (.invokevirtual 238) 3 := dop_182 (dn_w dw153_2 6 rfl) rfl
theorem dX9_days_41 : DE cX9_days 41 (.istore 4) 2 := dop_54 (dn_w dw153_2 9 rfl)
theorem dX9_days_43 : DE cX9_days 43 (.aload_n 0) 1 := dop_42 (dn_w dw153_2 11 rfl)
theorem dX9_days_44 : DE cX9_days 44 (.getfield 19) 3 := dop_180 (dn_w dw153_2 12 rfl) rfl
theorem dX9_days_47 : DE cX9_days 47 (.iload_n 3) 1 := dop_29 (dn_w dw153_2 15 rfl)
theorem dX9_days_48 : DE cX9_days 48 (.iload 4) 2 := dop_21 (dn_w dw153_3 0 rfl)
theorem dX9_days_50 : DE cX9_days 50 (.iastore) 1 := dop_79 (dn_w dw153_3 2 rfl)
theorem dX9_days_51 : DE cX9_days 51 (.aload_n 0) 1 := dop_42 (dn_w dw153_3 3 rfl)
theorem dX9_days_52 : DE cX9_days 52 (.getfield 22) 3 := dop_180 (dn_w dw153_3 4 rfl) rfl
theorem dX9_days_55 : DE cX9_days 55 (.iload_n 3) 1 := dop_29 (dn_w dw153_3 7 rfl)
theorem dX9_days_56 : DE cX9_days 56 (.iload 4) 2 := dop_21 (dn_w dw153_3 8 rfl)
theorem dX9_days_58 : DE cX9_days 58 (.iastore) 1 := dop_79 (dn_w dw153_3 10 rfl)
theorem dX9_days_59 : DE cX9_days 59 (.iinc 2 1) 3 := dop_132 (dn_w dw153_3 11 rfl) rfl
theorem dX9_days_62 : DE cX9_days 62 (.goto (-48)) 3 := dop_167 (dn_w dw153_3 14 rfl) rfl
theorem dX9_days_65 : DE cX9_days 65 (.aload_n 0) 1 := dop_42 (dn_w dw153_4 1 rfl)
theorem dX9_days_66 : DE cX9_days 66 (.getfield 13) 3 := dop_180 (dn_w dw153_4 2 rfl) rfl
theorem dX9_days_69 : DE cX9_days 69 (.iconst 0) 1 := dop_3 (dn_w dw153_4 5 rfl)
theorem dX9_days_70 : DE cX9_days 70 (.iaload) 1 := dop_46 (dn_w dw153_4 6 rfl)
theorem dX9_days_71 : DE cX9_days 71 (.ireturn) 1 := dop_172 (dn_w dw153_4 7 rfl)
noncomputable def dt154_3 : List Nat := 1 :: 132 :: 3 :: 1 :: 167 :: 255 :: 208 :: 28 :: 172 :: []
noncomputable def dt154_2 : List Nat := 0 :: 222 :: 16 :: 9 :: 96 :: 29 :: 96 :: 42 :: 180 :: 0 :: 25 :: 3 :: 46 :: 79 :: 132 :: 2 :: dt154_3
noncomputable def dt154_1 : List Nat := 182 :: 0 :: 209 :: 122 :: 4 :: 126 :: 4 :: 160 :: 0 :: 26 :: 42 :: 180 :: 0 :: 13 :: 42 :: 180 :: dt154_2
noncomputable def dt154_0 : List Nat := 3 :: 61 :: 3 :: 62 :: 29 :: 42 :: 180 :: 0 :: 91 :: 162 :: 0 :: 46 :: 27 :: 42 :: 29 :: 5 :: dt154_1
theorem dw154_0 : dn cX9_knocks 0 = dt154_0 := by decide +kernel
theorem dw154_1 : dn cX9_knocks 16 = dt154_1 := dn_w dw154_0 16 rfl
theorem dw154_2 : dn cX9_knocks 32 = dt154_2 := dn_w dw154_1 16 rfl
theorem dw154_3 : dn cX9_knocks 48 = dt154_3 := dn_w dw154_2 16 rfl
theorem dX9_knocks_0 : DE cX9_knocks 0 (.iconst 0) 1 := dop_3 (dn_w dw154_0 0 rfl)
theorem dX9_knocks_1 : DE cX9_knocks 1 (.istore_n 2) 1 := dop_61 (dn_w dw154_0 1 rfl)
theorem dX9_knocks_2 : DE cX9_knocks 2 (.iconst 0) 1 := dop_3 (dn_w dw154_0 2 rfl)
theorem dX9_knocks_3 : DE cX9_knocks 3 (.istore_n 3) 1 := dop_62 (dn_w dw154_0 3 rfl)
theorem dX9_knocks_4 : DE cX9_knocks 4 (.iload_n 3) 1 := dop_29 (dn_w dw154_0 4 rfl)
theorem dX9_knocks_5 : DE cX9_knocks 5 (.aload_n 0) 1 := dop_42 (dn_w dw154_0 5 rfl)
theorem dX9_knocks_6 : DE cX9_knocks 6 (.getfield 91) 3 := dop_180 (dn_w dw154_0 6 rfl) rfl
theorem dX9_knocks_9 : DE cX9_knocks 9 (.if_icmp .ge 46) 3 := dop_162 (dn_w dw154_0 9 rfl) rfl
theorem dX9_knocks_12 : DE cX9_knocks 12 (.iload_n 1) 1 := dop_27 (dn_w dw154_0 12 rfl)
theorem dX9_knocks_13 : DE cX9_knocks 13 (.aload_n 0) 1 := dop_42 (dn_w dw154_0 13 rfl)
theorem dX9_knocks_14 : DE cX9_knocks 14 (.iload_n 3) 1 := dop_29 (dn_w dw154_0 14 rfl)
theorem dX9_knocks_15 : DE cX9_knocks 15 (.iconst 2) 1 := dop_5 (dn_w dw154_0 15 rfl)
theorem dX9_knocks_16 : DE cX9_knocks 16 (.invokevirtual 209) 3 := dop_182 (dn_w dw154_1 0 rfl) rfl
theorem dX9_knocks_19 : DE cX9_knocks 19 (.ishr) 1 := dop_122 (dn_w dw154_1 3 rfl)
theorem dX9_knocks_20 : DE cX9_knocks 20 (.iconst 1) 1 := dop_4 (dn_w dw154_1 4 rfl)
theorem dX9_knocks_21 : DE cX9_knocks 21 (.iand) 1 := dop_126 (dn_w dw154_1 5 rfl)
theorem dX9_knocks_22 : DE cX9_knocks 22 (.iconst 1) 1 := dop_4 (dn_w dw154_1 6 rfl)
theorem dX9_knocks_23 : DE cX9_knocks 23 (.if_icmp .ne 26) 3 := dop_160 (dn_w dw154_1 7 rfl) rfl
theorem dX9_knocks_26 : DE cX9_knocks 26 (.aload_n 0) 1 := dop_42 (dn_w dw154_1 10 rfl)
theorem dX9_knocks_27 : DE cX9_knocks 27 (.getfield 13) 3 := dop_180 (dn_w dw154_1 11 rfl) rfl
theorem dX9_knocks_30 : DE cX9_knocks 30 (.aload_n 0) 1 := dop_42 (dn_w dw154_1 14 rfl)
theorem dX9_knocks_31 : DE cX9_knocks 31 (.getfield 222) 3 := dop_180 (dn_w dw154_1 15 rfl) rfl
theorem dX9_knocks_34 : DE cX9_knocks 34 (.bipush 9) 2 := dop_16 (dn_w dw154_2 2 rfl) rfl
theorem dX9_knocks_36 : DE cX9_knocks 36 (.iadd) 1 := dop_96 (dn_w dw154_2 4 rfl)
theorem dX9_knocks_37 : DE cX9_knocks 37 (.iload_n 3) 1 := dop_29 (dn_w dw154_2 5 rfl)
theorem dX9_knocks_38 : DE cX9_knocks 38 (.iadd) 1 := dop_96 (dn_w dw154_2 6 rfl)
theorem dX9_knocks_39 : DE cX9_knocks 39 (.aload_n 0) 1 := dop_42 (dn_w dw154_2 7 rfl)
theorem dX9_knocks_40 : DE cX9_knocks 40 (.getfield 25) 3 := dop_180 (dn_w dw154_2 8 rfl) rfl
theorem dX9_knocks_43 : DE cX9_knocks 43 (.iconst 0) 1 := dop_3 (dn_w dw154_2 11 rfl)
theorem dX9_knocks_44 : DE cX9_knocks 44 (.iaload) 1 := dop_46 (dn_w dw154_2 12 rfl)
theorem dX9_knocks_45 : DE cX9_knocks 45 (.iastore) 1 := dop_79 (dn_w dw154_2 13 rfl)
theorem dX9_knocks_46 : DE cX9_knocks 46 (.iinc 2 1) 3 := dop_132 (dn_w dw154_2 14 rfl) rfl
theorem dX9_knocks_49 : DE cX9_knocks 49 (.iinc 3 1) 3 := dop_132 (dn_w dw154_3 1 rfl) rfl
theorem dX9_knocks_52 : DE cX9_knocks 52 (.goto (-48)) 3 := dop_167 (dn_w dw154_3 4 rfl) rfl
theorem dX9_knocks_55 : DE cX9_knocks 55 (.iload_n 2) 1 := dop_28 (dn_w dw154_3 7 rfl)
theorem dX9_knocks_56 : DE cX9_knocks 56 (.ireturn) 1 := dop_172 (dn_w dw154_3 8 rfl)
noncomputable def dt155_1 : List Nat := 167 :: 0 :: 4 :: 2 :: 172 :: []
noncomputable def dt155_0 : List Nat := 27 :: 3 :: 8 :: 184 :: 0 :: 87 :: 153 :: 0 :: 13 :: 42 :: 4 :: 27 :: 120 :: 182 :: 0 :: 241 :: dt155_1
theorem dw155_0 : dn cX9_knock 0 = dt155_0 := by decide +kernel
theorem dw155_1 : dn cX9_knock 16 = dt155_1 := dn_w dw155_0 16 rfl
theorem dX9_knock_0 : DE cX9_knock 0 (.iload_n 1) 1 := dop_27 (dn_w dw155_0 0 rfl)
theorem dX9_knock_1 : DE cX9_knock 1 (.iconst 0) 1 := dop_3 (dn_w dw155_0 1 rfl)
theorem dX9_knock_2 : DE cX9_knock 2 (.iconst 5) 1 := dop_8 (dn_w dw155_0 2 rfl)
theorem dX9_knock_3 : DE cX9_knock 3 (.invokestatic 87) 3 := dop_184 (dn_w dw155_0 3 rfl) rfl
theorem dX9_knock_6 : DE cX9_knock 6 (.ifCond .eq 13) 3 := dop_153 (dn_w dw155_0 6 rfl) rfl
theorem dX9_knock_9 : DE cX9_knock 9 (.aload_n 0) 1 := dop_42 (dn_w dw155_0 9 rfl)
theorem dX9_knock_10 : DE cX9_knock 10 (.iconst 1) 1 := dop_4 (dn_w dw155_0 10 rfl)
theorem dX9_knock_11 : DE cX9_knock 11 (.iload_n 1) 1 := dop_27 (dn_w dw155_0 11 rfl)
theorem dX9_knock_12 : DE cX9_knock 12 (.ishl) 1 := dop_120 (dn_w dw155_0 12 rfl)
theorem dX9_knock_13 : DE cX9_knock 13 (.invokevirtual 241) 3 := dop_182 (dn_w dw155_0 13 rfl) rfl
theorem dX9_knock_16 : DE cX9_knock 16 (.goto 4) 3 := dop_167 (dn_w dw155_1 0 rfl) rfl
theorem dX9_knock_19 : DE cX9_knock 19 (.iconst (-1)) 1 := dop_2 (dn_w dw155_1 3 rfl)
theorem dX9_knock_20 : DE cX9_knock 20 (.ireturn) 1 := dop_172 (dn_w dw155_1 4 rfl)
noncomputable def dt156_4 : List Nat := 172 :: []
noncomputable def dt156_3 : List Nat := 5 :: 3 :: 172 :: 42 :: 180 :: 0 :: 19 :: 27 :: 92 :: 46 :: 4 :: 28 :: 120 :: 130 :: 79 :: 4 :: dt156_4
noncomputable def dt156_2 : List Nat := 28 :: 122 :: 4 :: 126 :: 4 :: 160 :: 0 :: 7 :: 4 :: 167 :: 0 :: 4 :: 3 :: 29 :: 160 :: 0 :: dt156_3
noncomputable def dt156_1 : List Nat := 4 :: 100 :: 184 :: 0 :: 87 :: 154 :: 0 :: 5 :: 2 :: 172 :: 42 :: 180 :: 0 :: 19 :: 27 :: 46 :: dt156_2
noncomputable def dt156_0 : List Nat := 42 :: 28 :: 182 :: 0 :: 206 :: 153 :: 0 :: 19 :: 27 :: 3 :: 42 :: 180 :: 0 :: 13 :: 3 :: 46 :: dt156_1
theorem dw156_0 : dn cX9_write 0 = dt156_0 := by decide +kernel
theorem dw156_1 : dn cX9_write 16 = dt156_1 := dn_w dw156_0 16 rfl
theorem dw156_2 : dn cX9_write 32 = dt156_2 := dn_w dw156_1 16 rfl
theorem dw156_3 : dn cX9_write 48 = dt156_3 := dn_w dw156_2 16 rfl
theorem dw156_4 : dn cX9_write 64 = dt156_4 := dn_w dw156_3 16 rfl
theorem dX9_write_0 : DE cX9_write 0 (.aload_n 0) 1 := dop_42 (dn_w dw156_0 0 rfl)
theorem dX9_write_1 : DE cX9_write 1 (.iload_n 2) 1 := dop_28 (dn_w dw156_0 1 rfl)
theorem dX9_write_2 : DE cX9_write 2 (.invokevirtual 206) 3 := dop_182 (dn_w dw156_0 2 rfl) rfl
theorem dX9_write_5 : DE cX9_write 5 (.ifCond .eq 19) 3 := dop_153 (dn_w dw156_0 5 rfl) rfl
theorem dX9_write_8 : DE cX9_write 8 (.iload_n 1) 1 := dop_27 (dn_w dw156_0 8 rfl)
theorem dX9_write_9 : DE cX9_write 9 (.iconst 0) 1 := dop_3 (dn_w dw156_0 9 rfl)
theorem dX9_write_10 : DE cX9_write 10 (.aload_n 0) 1 := dop_42 (dn_w dw156_0 10 rfl)
theorem dX9_write_11 : DE cX9_write 11 (.getfield 13) 3 := dop_180 (dn_w dw156_0 11 rfl) rfl
theorem dX9_write_14 : DE cX9_write 14 (.iconst 0) 1 := dop_3 (dn_w dw156_0 14 rfl)
theorem dX9_write_15 : DE cX9_write 15 (.iaload) 1 := dop_46 (dn_w dw156_0 15 rfl)
theorem dX9_write_16 : DE cX9_write 16 (.iconst 1) 1 := dop_4 (dn_w dw156_1 0 rfl)
theorem dX9_write_17 : DE cX9_write 17 (.isub) 1 := dop_100 (dn_w dw156_1 1 rfl)
theorem dX9_write_18 : DE cX9_write 18 (.invokestatic 87) 3 := dop_184 (dn_w dw156_1 2 rfl) rfl
theorem dX9_write_21 : DE cX9_write 21 (.ifCond .ne 5) 3 := dop_154 (dn_w dw156_1 5 rfl) rfl
theorem dX9_write_24 : DE cX9_write 24 (.iconst (-1)) 1 := dop_2 (dn_w dw156_1 8 rfl)
theorem dX9_write_25 : DE cX9_write 25 (.ireturn) 1 := dop_172 (dn_w dw156_1 9 rfl)
theorem dX9_write_26 : DE cX9_write 26 (.aload_n 0) 1 := dop_42 (dn_w dw156_1 10 rfl)
theorem dX9_write_27 : DE cX9_write 27 (.getfield 19) 3 := dop_180 (dn_w dw156_1 11 rfl) rfl
theorem dX9_write_30 : DE cX9_write 30 (.iload_n 1) 1 := dop_27 (dn_w dw156_1 14 rfl)
theorem dX9_write_31 : DE cX9_write 31 (.iaload) 1 := dop_46 (dn_w dw156_1 15 rfl)
theorem dX9_write_32 : DE cX9_write 32 (.iload_n 2) 1 := dop_28 (dn_w dw156_2 0 rfl)
theorem dX9_write_33 : DE cX9_write 33 (.ishr) 1 := dop_122 (dn_w dw156_2 1 rfl)
theorem dX9_write_34 : DE cX9_write 34 (.iconst 1) 1 := dop_4 (dn_w dw156_2 2 rfl)
theorem dX9_write_35 : DE cX9_write 35 (.iand) 1 := dop_126 (dn_w dw156_2 3 rfl)
theorem dX9_write_36 : DE cX9_write 36 (.iconst 1) 1 := dop_4 (dn_w dw156_2 4 rfl)
theorem dX9_write_37 : DE cX9_write 37 (.if_icmp .ne 7) 3 := dop_160 (dn_w dw156_2 5 rfl) rfl
theorem dX9_write_40 : DE cX9_write 40 (.iconst 1) 1 := dop_4 (dn_w dw156_2 8 rfl)
theorem dX9_write_41 : DE cX9_write 41 (.goto 4) 3 := dop_167 (dn_w dw156_2 9 rfl) rfl
theorem dX9_write_44 : DE cX9_write 44 (.iconst 0) 1 := dop_3 (dn_w dw156_2 12 rfl)
theorem dX9_write_45 : DE cX9_write 45 (.iload_n 3) 1 := dop_29 (dn_w dw156_2 13 rfl)
theorem dX9_write_46 : DE cX9_write 46 (.if_icmp .ne 5) 3 := dop_160 (dn_w dw156_2 14 rfl) rfl
theorem dX9_write_49 : DE cX9_write 49 (.iconst 0) 1 := dop_3 (dn_w dw156_3 1 rfl)
theorem dX9_write_50 : DE cX9_write 50 (.ireturn) 1 := dop_172 (dn_w dw156_3 2 rfl)
theorem dX9_write_51 : DE cX9_write 51 (.aload_n 0) 1 := dop_42 (dn_w dw156_3 3 rfl)
theorem dX9_write_52 : DE cX9_write 52 (.getfield 19) 3 := dop_180 (dn_w dw156_3 4 rfl) rfl
theorem dX9_write_55 : DE cX9_write 55 (.iload_n 1) 1 := dop_27 (dn_w dw156_3 7 rfl)
theorem dX9_write_56 : DE cX9_write 56 (.dup2) 1 := dop_92 (dn_w dw156_3 8 rfl)
theorem dX9_write_57 : DE cX9_write 57 (.iaload) 1 := dop_46 (dn_w dw156_3 9 rfl)
theorem dX9_write_58 : DE cX9_write 58 (.iconst 1) 1 := dop_4 (dn_w dw156_3 10 rfl)
theorem dX9_write_59 : DE cX9_write 59 (.iload_n 2) 1 := dop_28 (dn_w dw156_3 11 rfl)
theorem dX9_write_60 : DE cX9_write 60 (.ishl) 1 := dop_120 (dn_w dw156_3 12 rfl)
theorem dX9_write_61 : DE cX9_write 61 (.ixor) 1 := dop_130 (dn_w dw156_3 13 rfl)
theorem dX9_write_62 : DE cX9_write 62 (.iastore) 1 := dop_79 (dn_w dw156_3 14 rfl)
theorem dX9_write_63 : DE cX9_write 63 (.iconst 1) 1 := dop_4 (dn_w dw156_3 15 rfl)
theorem dX9_write_64 : DE cX9_write 64 (.ireturn) 1 := dop_172 (dn_w dw156_4 0 rfl)
noncomputable def dt157_1 : List Nat := 61 :: 167 :: 255 :: 243 :: 27 :: 172 :: []
noncomputable def dt157_0 : List Nat := 3 :: 60 :: 26 :: 61 :: 28 :: 153 :: 0 :: 15 :: 132 :: 1 :: 1 :: 28 :: 28 :: 4 :: 100 :: 126 :: dt157_1
theorem dw157_0 : dn cX9_ones 0 = dt157_0 := by decide +kernel
theorem dw157_1 : dn cX9_ones 16 = dt157_1 := dn_w dw157_0 16 rfl
theorem dX9_ones_0 : DE cX9_ones 0 (.iconst 0) 1 := dop_3 (dn_w dw157_0 0 rfl)
theorem dX9_ones_1 : DE cX9_ones 1 (.istore_n 1) 1 := dop_60 (dn_w dw157_0 1 rfl)
theorem dX9_ones_2 : DE cX9_ones 2 (.iload_n 0) 1 := dop_26 (dn_w dw157_0 2 rfl)
theorem dX9_ones_3 : DE cX9_ones 3 (.istore_n 2) 1 := dop_61 (dn_w dw157_0 3 rfl)
theorem dX9_ones_4 : DE cX9_ones 4 (.iload_n 2) 1 := dop_28 (dn_w dw157_0 4 rfl)
theorem dX9_ones_5 : DE cX9_ones 5 (.ifCond .eq 15) 3 := dop_153 (dn_w dw157_0 5 rfl) rfl
theorem dX9_ones_8 : DE cX9_ones 8 (.iinc 1 1) 3 := dop_132 (dn_w dw157_0 8 rfl) rfl
theorem dX9_ones_11 : DE cX9_ones 11 (.iload_n 2) 1 := dop_28 (dn_w dw157_0 11 rfl)
theorem dX9_ones_12 : DE cX9_ones 12 (.iload_n 2) 1 := dop_28 (dn_w dw157_0 12 rfl)
theorem dX9_ones_13 : DE cX9_ones 13 (.iconst 1) 1 := dop_4 (dn_w dw157_0 13 rfl)
theorem dX9_ones_14 : DE cX9_ones 14 (.isub) 1 := dop_100 (dn_w dw157_0 14 rfl)
theorem dX9_ones_15 : DE cX9_ones 15 (.iand) 1 := dop_126 (dn_w dw157_0 15 rfl)
theorem dX9_ones_16 : DE cX9_ones 16 (.istore_n 2) 1 := dop_61 (dn_w dw157_1 0 rfl)
theorem dX9_ones_17 : DE cX9_ones 17 (.goto (-13)) 3 := dop_167 (dn_w dw157_1 1 rfl) rfl
theorem dX9_ones_20 : DE cX9_ones 20 (.iload_n 1) 1 := dop_27 (dn_w dw157_1 4 rfl)
theorem dX9_ones_21 : DE cX9_ones 21 (.ireturn) 1 := dop_172 (dn_w dw157_1 5 rfl)
noncomputable def dt158_2 : List Nat := 61 :: 132 :: 3 :: 1 :: 167 :: 255 :: 234 :: 28 :: 172 :: []
noncomputable def dt158_1 : List Nat := 40 :: 162 :: 0 :: 22 :: 28 :: 42 :: 180 :: 0 :: 19 :: 29 :: 46 :: 27 :: 122 :: 4 :: 126 :: 96 :: dt158_2
noncomputable def dt158_0 : List Nat := 42 :: 27 :: 182 :: 0 :: 206 :: 154 :: 0 :: 5 :: 2 :: 172 :: 3 :: 61 :: 3 :: 62 :: 29 :: 16 :: dt158_1
theorem dw158_0 : dn cX9_marks 0 = dt158_0 := by decide +kernel
theorem dw158_1 : dn cX9_marks 16 = dt158_1 := dn_w dw158_0 16 rfl
theorem dw158_2 : dn cX9_marks 32 = dt158_2 := dn_w dw158_1 16 rfl
theorem dX9_marks_0 : DE cX9_marks 0 (.aload_n 0) 1 := dop_42 (dn_w dw158_0 0 rfl)
theorem dX9_marks_1 : DE cX9_marks 1 (.iload_n 1) 1 := dop_27 (dn_w dw158_0 1 rfl)
theorem dX9_marks_2 : DE cX9_marks 2 (.invokevirtual 206) 3 := dop_182 (dn_w dw158_0 2 rfl) rfl
theorem dX9_marks_5 : DE cX9_marks 5 (.ifCond .ne 5) 3 := dop_154 (dn_w dw158_0 5 rfl) rfl
theorem dX9_marks_8 : DE cX9_marks 8 (.iconst (-1)) 1 := dop_2 (dn_w dw158_0 8 rfl)
theorem dX9_marks_9 : DE cX9_marks 9 (.ireturn) 1 := dop_172 (dn_w dw158_0 9 rfl)
theorem dX9_marks_10 : DE cX9_marks 10 (.iconst 0) 1 := dop_3 (dn_w dw158_0 10 rfl)
theorem dX9_marks_11 : DE cX9_marks 11 (.istore_n 2) 1 := dop_61 (dn_w dw158_0 11 rfl)
theorem dX9_marks_12 : DE cX9_marks 12 (.iconst 0) 1 := dop_3 (dn_w dw158_0 12 rfl)
theorem dX9_marks_13 : DE cX9_marks 13 (.istore_n 3) 1 := dop_62 (dn_w dw158_0 13 rfl)
theorem dX9_marks_14 : DE cX9_marks 14 (.iload_n 3) 1 := dop_29 (dn_w dw158_0 14 rfl)
theorem dX9_marks_15 : DE cX9_marks 15 (.bipush 40) 2 := dop_16 (dn_w dw158_0 15 rfl) rfl
theorem dX9_marks_17 : DE cX9_marks 17 (.if_icmp .ge 22) 3 := dop_162 (dn_w dw158_1 1 rfl) rfl
theorem dX9_marks_20 : DE cX9_marks 20 (.iload_n 2) 1 := dop_28 (dn_w dw158_1 4 rfl)
theorem dX9_marks_21 : DE cX9_marks 21 (.aload_n 0) 1 := dop_42 (dn_w dw158_1 5 rfl)
theorem dX9_marks_22 : DE cX9_marks 22 (.getfield 19) 3 := dop_180 (dn_w dw158_1 6 rfl) rfl
theorem dX9_marks_25 : DE cX9_marks 25 (.iload_n 3) 1 := dop_29 (dn_w dw158_1 9 rfl)
theorem dX9_marks_26 : DE cX9_marks 26 (.iaload) 1 := dop_46 (dn_w dw158_1 10 rfl)
theorem dX9_marks_27 : DE cX9_marks 27 (.iload_n 1) 1 := dop_27 (dn_w dw158_1 11 rfl)
theorem dX9_marks_28 : DE cX9_marks 28 (.ishr) 1 := dop_122 (dn_w dw158_1 12 rfl)
theorem dX9_marks_29 : DE cX9_marks 29 (.iconst 1) 1 := dop_4 (dn_w dw158_1 13 rfl)
theorem dX9_marks_30 : DE cX9_marks 30 (.iand) 1 := dop_126 (dn_w dw158_1 14 rfl)
theorem dX9_marks_31 : DE cX9_marks 31 (.iadd) 1 := dop_96 (dn_w dw158_1 15 rfl)
theorem dX9_marks_32 : DE cX9_marks 32 (.istore_n 2) 1 := dop_61 (dn_w dw158_2 0 rfl)
theorem dX9_marks_33 : DE cX9_marks 33 (.iinc 3 1) 3 := dop_132 (dn_w dw158_2 1 rfl) rfl
theorem dX9_marks_36 : DE cX9_marks 36 (.goto (-22)) 3 := dop_167 (dn_w dw158_2 4 rfl) rfl
theorem dX9_marks_39 : DE cX9_marks 39 (.iload_n 2) 1 := dop_28 (dn_w dw158_2 7 rfl)
theorem dX9_marks_40 : DE cX9_marks 40 (.ireturn) 1 := dop_172 (dn_w dw158_2 8 rfl)
noncomputable def dt159_8 : List Nat := 7 :: 29 :: 167 :: 0 :: 5 :: 21 :: 4 :: 172 :: []
noncomputable def dt159_7 : List Nat := 1 :: 167 :: 255 :: 165 :: 27 :: 154 :: 0 :: 7 :: 28 :: 167 :: 0 :: 14 :: 27 :: 4 :: 160 :: 0 :: dt159_8
noncomputable def dt159_6 : List Nat := 5 :: 46 :: 159 :: 0 :: 8 :: 21 :: 5 :: 167 :: 0 :: 5 :: 21 :: 4 :: 54 :: 4 :: 132 :: 5 :: dt159_7
noncomputable def dt159_5 : List Nat := 4 :: 156 :: 0 :: 25 :: 42 :: 180 :: 0 :: 19 :: 21 :: 5 :: 46 :: 42 :: 180 :: 0 :: 22 :: 21 :: dt159_6
noncomputable def dt159_4 : List Nat := 42 :: 180 :: 0 :: 19 :: 21 :: 5 :: 46 :: 2 :: 130 :: 126 :: 184 :: 0 :: 244 :: 96 :: 62 :: 21 :: dt159_5
noncomputable def dt159_3 : List Nat := 2 :: 130 :: 126 :: 184 :: 0 :: 244 :: 96 :: 61 :: 29 :: 42 :: 180 :: 0 :: 22 :: 21 :: 5 :: 46 :: dt159_4
noncomputable def dt159_2 : List Nat := 86 :: 28 :: 42 :: 180 :: 0 :: 19 :: 21 :: 5 :: 46 :: 42 :: 180 :: 0 :: 22 :: 21 :: 5 :: 46 :: dt159_3
noncomputable def dt159_1 : List Nat := 247 :: 54 :: 4 :: 3 :: 54 :: 5 :: 21 :: 5 :: 42 :: 180 :: 0 :: 13 :: 3 :: 46 :: 162 :: 0 :: dt159_2
noncomputable def dt159_0 : List Nat := 27 :: 3 :: 5 :: 184 :: 0 :: 87 :: 154 :: 0 :: 5 :: 2 :: 172 :: 3 :: 61 :: 3 :: 62 :: 16 :: dt159_1
theorem dw159_0 : dn cX9_wrong 0 = dt159_0 := by decide +kernel
theorem dw159_1 : dn cX9_wrong 16 = dt159_1 := dn_w dw159_0 16 rfl
theorem dw159_2 : dn cX9_wrong 32 = dt159_2 := dn_w dw159_1 16 rfl
theorem dw159_3 : dn cX9_wrong 48 = dt159_3 := dn_w dw159_2 16 rfl
theorem dw159_4 : dn cX9_wrong 64 = dt159_4 := dn_w dw159_3 16 rfl
theorem dw159_5 : dn cX9_wrong 80 = dt159_5 := dn_w dw159_4 16 rfl
theorem dw159_6 : dn cX9_wrong 96 = dt159_6 := dn_w dw159_5 16 rfl
theorem dw159_7 : dn cX9_wrong 112 = dt159_7 := dn_w dw159_6 16 rfl
theorem dw159_8 : dn cX9_wrong 128 = dt159_8 := dn_w dw159_7 16 rfl
theorem dX9_wrong_0 : DE cX9_wrong 0 (.iload_n 1) 1 := dop_27 (dn_w dw159_0 0 rfl)
theorem dX9_wrong_1 : DE cX9_wrong 1 (.iconst 0) 1 := dop_3 (dn_w dw159_0 1 rfl)
theorem dX9_wrong_2 : DE cX9_wrong 2 (.iconst 2) 1 := dop_5 (dn_w dw159_0 2 rfl)
theorem dX9_wrong_3 : DE cX9_wrong 3 (.invokestatic 87) 3 := dop_184 (dn_w dw159_0 3 rfl) rfl
theorem dX9_wrong_6 : DE cX9_wrong 6 (.ifCond .ne 5) 3 := dop_154 (dn_w dw159_0 6 rfl) rfl
theorem dX9_wrong_9 : DE cX9_wrong 9 (.iconst (-1)) 1 := dop_2 (dn_w dw159_0 9 rfl)
theorem dX9_wrong_10 : DE cX9_wrong 10 (.ireturn) 1 := dop_172 (dn_w dw159_0 10 rfl)
theorem dX9_wrong_11 : DE cX9_wrong 11 (.iconst 0) 1 := dop_3 (dn_w dw159_0 11 rfl)
theorem dX9_wrong_12 : DE cX9_wrong 12 (.istore_n 2) 1 := dop_61 (dn_w dw159_0 12 rfl)
theorem dX9_wrong_13 : DE cX9_wrong 13 (.iconst 0) 1 := dop_3 (dn_w dw159_0 13 rfl)
theorem dX9_wrong_14 : DE cX9_wrong 14 (.istore_n 3) 1 := dop_62 (dn_w dw159_0 14 rfl)
theorem dX9_wrong_15 : DE cX9_wrong 15 (.bipush (-9)) 2 := dop_16 (dn_w dw159_0 15 rfl) rfl
theorem dX9_wrong_17 : DE cX9_wrong 17 (.istore 4) 2 := dop_54 (dn_w dw159_1 1 rfl)
theorem dX9_wrong_19 : DE cX9_wrong 19 (.iconst 0) 1 := dop_3 (dn_w dw159_1 3 rfl)
theorem dX9_wrong_20 : DE cX9_wrong 20 (.istore 5) 2 := dop_54 (dn_w dw159_1 4 rfl)
theorem dX9_wrong_22 : DE cX9_wrong 22 (.iload 5) 2 := dop_21 (dn_w dw159_1 6 rfl)
theorem dX9_wrong_24 : DE cX9_wrong 24 (.aload_n 0) 1 := dop_42 (dn_w dw159_1 8 rfl)
theorem dX9_wrong_25 : DE cX9_wrong 25 (.getfield 13) 3 := dop_180 (dn_w dw159_1 9 rfl) rfl
theorem dX9_wrong_28 : DE cX9_wrong 28 (.iconst 0) 1 := dop_3 (dn_w dw159_1 12 rfl)
theorem dX9_wrong_29 : DE cX9_wrong 29 (.iaload) 1 := dop_46 (dn_w dw159_1 13 rfl)
theorem dX9_wrong_30 : DE cX9_wrong 30 (.if_icmp .ge 86) 3 := dop_162 (dn_w dw159_1 14 rfl) rfl
theorem dX9_wrong_33 : DE cX9_wrong 33 (.iload_n 2) 1 := dop_28 (dn_w dw159_2 1 rfl)
theorem dX9_wrong_34 : DE cX9_wrong 34 (.aload_n 0) 1 := dop_42 (dn_w dw159_2 2 rfl)
theorem dX9_wrong_35 : DE cX9_wrong 35 (.getfield 19) 3 := dop_180 (dn_w dw159_2 3 rfl) rfl
theorem dX9_wrong_38 : DE cX9_wrong 38 (.iload 5) 2 := dop_21 (dn_w dw159_2 6 rfl)
theorem dX9_wrong_40 : DE cX9_wrong 40 (.iaload) 1 := dop_46 (dn_w dw159_2 8 rfl)
theorem dX9_wrong_41 : DE cX9_wrong 41 (.aload_n 0) 1 := dop_42 (dn_w dw159_2 9 rfl)
theorem dX9_wrong_42 : DE cX9_wrong 42 (.getfield 22) 3 := dop_180 (dn_w dw159_2 10 rfl) rfl
theorem dX9_wrong_45 : DE cX9_wrong 45 (.iload 5) 2 := dop_21 (dn_w dw159_2 13 rfl)
theorem dX9_wrong_47 : DE cX9_wrong 47 (.iaload) 1 := dop_46 (dn_w dw159_2 15 rfl)
theorem dX9_wrong_48 : DE cX9_wrong 48 (.iconst (-1)) 1 := dop_2 (dn_w dw159_3 0 rfl)
theorem dX9_wrong_49 : DE cX9_wrong 49 (.ixor) 1 := dop_130 (dn_w dw159_3 1 rfl)
theorem dX9_wrong_50 : DE cX9_wrong 50 (.iand) 1 := dop_126 (dn_w dw159_3 2 rfl)
theorem dX9_wrong_51 : DE cX9_wrong 51 (.invokestatic 244) 3 := dop_184 (dn_w dw159_3 3 rfl) rfl
theorem dX9_wrong_54 : DE cX9_wrong 54 (.iadd) 1 := dop_96 (dn_w dw159_3 6 rfl)
theorem dX9_wrong_55 : DE cX9_wrong 55 (.istore_n 2) 1 := dop_61 (dn_w dw159_3 7 rfl)
theorem dX9_wrong_56 : DE cX9_wrong 56 (.iload_n 3) 1 := dop_29 (dn_w dw159_3 8 rfl)
theorem dX9_wrong_57 : DE cX9_wrong 57 (.aload_n 0) 1 := dop_42 (dn_w dw159_3 9 rfl)
theorem dX9_wrong_58 : DE cX9_wrong 58 (.getfield 22) 3 := dop_180 (dn_w dw159_3 10 rfl) rfl
theorem dX9_wrong_61 : DE cX9_wrong 61 (.iload 5) 2 := dop_21 (dn_w dw159_3 13 rfl)
theorem dX9_wrong_63 : DE cX9_wrong 63 (.iaload) 1 := dop_46 (dn_w dw159_3 15 rfl)
theorem dX9_wrong_64 : DE cX9_wrong 64 (.aload_n 0) 1 := dop_42 (dn_w dw159_4 0 rfl)
theorem dX9_wrong_65 : DE cX9_wrong 65 (.getfield 19) 3 := dop_180 (dn_w dw159_4 1 rfl) rfl
theorem dX9_wrong_68 : DE cX9_wrong 68 (.iload 5) 2 := dop_21 (dn_w dw159_4 4 rfl)
theorem dX9_wrong_70 : DE cX9_wrong 70 (.iaload) 1 := dop_46 (dn_w dw159_4 6 rfl)
theorem dX9_wrong_71 : DE cX9_wrong 71 (.iconst (-1)) 1 := dop_2 (dn_w dw159_4 7 rfl)
theorem dX9_wrong_72 : DE cX9_wrong 72 (.ixor) 1 := dop_130 (dn_w dw159_4 8 rfl)
theorem dX9_wrong_73 : DE cX9_wrong 73 (.iand) 1 := dop_126 (dn_w dw159_4 9 rfl)
theorem dX9_wrong_74 : DE cX9_wrong 74 (.invokestatic 244) 3 := dop_184 (dn_w dw159_4 10 rfl) rfl
theorem dX9_wrong_77 : DE cX9_wrong 77 (.iadd) 1 := dop_96 (dn_w dw159_4 13 rfl)
theorem dX9_wrong_78 : DE cX9_wrong 78 (.istore_n 3) 1 := dop_62 (dn_w dw159_4 14 rfl)
theorem dX9_wrong_79 : DE cX9_wrong 79 (.iload 4) 2 := dop_21 (dn_w dw159_4 15 rfl)
theorem dX9_wrong_81 : DE cX9_wrong 81 (.ifCond .ge 25) 3 := dop_156 (dn_w dw159_5 1 rfl) rfl
theorem dX9_wrong_84 : DE cX9_wrong 84 (.aload_n 0) 1 := dop_42 (dn_w dw159_5 4 rfl)
theorem dX9_wrong_85 : DE cX9_wrong 85 (.getfield 19) 3 := dop_180 (dn_w dw159_5 5 rfl) rfl
theorem dX9_wrong_88 : DE cX9_wrong 88 (.iload 5) 2 := dop_21 (dn_w dw159_5 8 rfl)
theorem dX9_wrong_90 : DE cX9_wrong 90 (.iaload) 1 := dop_46 (dn_w dw159_5 10 rfl)
theorem dX9_wrong_91 : DE cX9_wrong 91 (.aload_n 0) 1 := dop_42 (dn_w dw159_5 11 rfl)
theorem dX9_wrong_92 : DE cX9_wrong 92 (.getfield 22) 3 := dop_180 (dn_w dw159_5 12 rfl) rfl
theorem dX9_wrong_95 : DE cX9_wrong 95 (.iload 5) 2 := dop_21 (dn_w dw159_5 15 rfl)
theorem dX9_wrong_97 : DE cX9_wrong 97 (.iaload) 1 := dop_46 (dn_w dw159_6 1 rfl)
theorem dX9_wrong_98 : DE cX9_wrong 98 (.if_icmp .eq 8) 3 := dop_159 (dn_w dw159_6 2 rfl) rfl
theorem dX9_wrong_101 : DE cX9_wrong 101 (.iload 5) 2 := dop_21 (dn_w dw159_6 5 rfl)
theorem dX9_wrong_103 : DE cX9_wrong 103 (.goto 5) 3 := dop_167 (dn_w dw159_6 7 rfl) rfl
theorem dX9_wrong_106 : DE cX9_wrong 106 (.iload 4) 2 := dop_21 (dn_w dw159_6 10 rfl)
theorem dX9_wrong_108 : DE cX9_wrong 108 (.istore 4) 2 := dop_54 (dn_w dw159_6 12 rfl)
theorem dX9_wrong_110 : DE cX9_wrong 110 (.iinc 5 1) 3 := dop_132 (dn_w dw159_6 14 rfl) rfl
theorem dX9_wrong_113 : DE cX9_wrong 113 (.goto (-91)) 3 := dop_167 (dn_w dw159_7 1 rfl) rfl
theorem dX9_wrong_116 : DE cX9_wrong 116 (.iload_n 1) 1 := dop_27 (dn_w dw159_7 4 rfl)
theorem dX9_wrong_117 : DE cX9_wrong 117 (.ifCond .ne 7) 3 := dop_154 (dn_w dw159_7 5 rfl) rfl
theorem dX9_wrong_120 : DE cX9_wrong 120 (.iload_n 2) 1 := dop_28 (dn_w dw159_7 8 rfl)
theorem dX9_wrong_121 : DE cX9_wrong 121 (.goto 14) 3 := dop_167 (dn_w dw159_7 9 rfl) rfl
theorem dX9_wrong_124 : DE cX9_wrong 124 (.iload_n 1) 1 := dop_27 (dn_w dw159_7 12 rfl)
theorem dX9_wrong_125 : DE cX9_wrong 125 (.iconst 1) 1 := dop_4 (dn_w dw159_7 13 rfl)
theorem dX9_wrong_126 : DE cX9_wrong 126 (.if_icmp .ne 7) 3 := dop_160 (dn_w dw159_7 14 rfl) rfl
theorem dX9_wrong_129 : DE cX9_wrong 129 (.iload_n 3) 1 := dop_29 (dn_w dw159_8 1 rfl)
theorem dX9_wrong_130 : DE cX9_wrong 130 (.goto 5) 3 := dop_167 (dn_w dw159_8 2 rfl) rfl
theorem dX9_wrong_133 : DE cX9_wrong 133 (.iload 4) 2 := dop_21 (dn_w dw159_8 5 rfl)
theorem dX9_wrong_135 : DE cX9_wrong 135 (.ireturn) 1 := dop_172 (dn_w dw159_8 7 rfl)
noncomputable def dt160_4 : List Nat := 1 :: 167 :: 255 :: 208 :: 28 :: 172 :: []
noncomputable def dt160_3 : List Nat := 4 :: 96 :: 62 :: 29 :: 28 :: 164 :: 0 :: 7 :: 29 :: 167 :: 0 :: 4 :: 28 :: 61 :: 132 :: 4 :: dt160_4
noncomputable def dt160_2 : List Nat := 21 :: 4 :: 46 :: 27 :: 122 :: 4 :: 126 :: 4 :: 160 :: 0 :: 7 :: 3 :: 167 :: 0 :: 6 :: 29 :: dt160_3
noncomputable def dt160_1 : List Nat := 4 :: 21 :: 4 :: 42 :: 180 :: 0 :: 13 :: 3 :: 46 :: 162 :: 0 :: 43 :: 42 :: 180 :: 0 :: 19 :: dt160_2
noncomputable def dt160_0 : List Nat := 42 :: 27 :: 182 :: 0 :: 206 :: 154 :: 0 :: 5 :: 2 :: 172 :: 3 :: 61 :: 3 :: 62 :: 3 :: 54 :: dt160_1
theorem dw160_0 : dn cX9_longest 0 = dt160_0 := by decide +kernel
theorem dw160_1 : dn cX9_longest 16 = dt160_1 := dn_w dw160_0 16 rfl
theorem dw160_2 : dn cX9_longest 32 = dt160_2 := dn_w dw160_1 16 rfl
theorem dw160_3 : dn cX9_longest 48 = dt160_3 := dn_w dw160_2 16 rfl
theorem dw160_4 : dn cX9_longest 64 = dt160_4 := dn_w dw160_3 16 rfl
theorem dX9_longest_0 : DE cX9_longest 0 (.aload_n 0) 1 := dop_42 (dn_w dw160_0 0 rfl)
theorem dX9_longest_1 : DE cX9_longest 1 (.iload_n 1) 1 := dop_27 (dn_w dw160_0 1 rfl)
theorem dX9_longest_2 : DE cX9_longest 2 (.invokevirtual 206) 3 := dop_182 (dn_w dw160_0 2 rfl) rfl
theorem dX9_longest_5 : DE cX9_longest 5 (.ifCond .ne 5) 3 := dop_154 (dn_w dw160_0 5 rfl) rfl
theorem dX9_longest_8 : DE cX9_longest 8 (.iconst (-1)) 1 := dop_2 (dn_w dw160_0 8 rfl)
theorem dX9_longest_9 : DE cX9_longest 9 (.ireturn) 1 := dop_172 (dn_w dw160_0 9 rfl)
theorem dX9_longest_10 : DE cX9_longest 10 (.iconst 0) 1 := dop_3 (dn_w dw160_0 10 rfl)
theorem dX9_longest_11 : DE cX9_longest 11 (.istore_n 2) 1 := dop_61 (dn_w dw160_0 11 rfl)
theorem dX9_longest_12 : DE cX9_longest 12 (.iconst 0) 1 := dop_3 (dn_w dw160_0 12 rfl)
theorem dX9_longest_13 : DE cX9_longest 13 (.istore_n 3) 1 := dop_62 (dn_w dw160_0 13 rfl)
theorem dX9_longest_14 : DE cX9_longest 14 (.iconst 0) 1 := dop_3 (dn_w dw160_0 14 rfl)
theorem dX9_longest_15 : DE cX9_longest 15 (.istore 4) 2 := dop_54 (dn_w dw160_0 15 rfl)
theorem dX9_longest_17 : DE cX9_longest 17 (.iload 4) 2 := dop_21 (dn_w dw160_1 1 rfl)
theorem dX9_longest_19 : DE cX9_longest 19 (.aload_n 0) 1 := dop_42 (dn_w dw160_1 3 rfl)
theorem dX9_longest_20 : DE cX9_longest 20 (.getfield 13) 3 := dop_180 (dn_w dw160_1 4 rfl) rfl
theorem dX9_longest_23 : DE cX9_longest 23 (.iconst 0) 1 := dop_3 (dn_w dw160_1 7 rfl)
theorem dX9_longest_24 : DE cX9_longest 24 (.iaload) 1 := dop_46 (dn_w dw160_1 8 rfl)
theorem dX9_longest_25 : DE cX9_longest 25 (.if_icmp .ge 43) 3 := dop_162 (dn_w dw160_1 9 rfl) rfl
theorem dX9_longest_28 : DE cX9_longest 28 (.aload_n 0) 1 := dop_42 (dn_w dw160_1 12 rfl)
theorem dX9_longest_29 : DE cX9_longest 29 (.getfield 19) 3 := dop_180 (dn_w dw160_1 13 rfl) rfl
theorem dX9_longest_32 : DE cX9_longest 32 (.iload 4) 2 := dop_21 (dn_w dw160_2 0 rfl)
theorem dX9_longest_34 : DE cX9_longest 34 (.iaload) 1 := dop_46 (dn_w dw160_2 2 rfl)
theorem dX9_longest_35 : DE cX9_longest 35 (.iload_n 1) 1 := dop_27 (dn_w dw160_2 3 rfl)
theorem dX9_longest_36 : DE cX9_longest 36 (.ishr) 1 := dop_122 (dn_w dw160_2 4 rfl)
theorem dX9_longest_37 : DE cX9_longest 37 (.iconst 1) 1 := dop_4 (dn_w dw160_2 5 rfl)
theorem dX9_longest_38 : DE cX9_longest 38 (.iand) 1 := dop_126 (dn_w dw160_2 6 rfl)
theorem dX9_longest_39 : DE cX9_longest 39 (.iconst 1) 1 := dop_4 (dn_w dw160_2 7 rfl)
theorem dX9_longest_40 : DE cX9_longest 40 (.if_icmp .ne 7) 3 := dop_160 (dn_w dw160_2 8 rfl) rfl
theorem dX9_longest_43 : DE cX9_longest 43 (.iconst 0) 1 := dop_3 (dn_w dw160_2 11 rfl)
theorem dX9_longest_44 : DE cX9_longest 44 (.goto 6) 3 := dop_167 (dn_w dw160_2 12 rfl) rfl
theorem dX9_longest_47 : DE cX9_longest 47 (.iload_n 3) 1 := dop_29 (dn_w dw160_2 15 rfl)
theorem dX9_longest_48 : DE cX9_longest 48 (.iconst 1) 1 := dop_4 (dn_w dw160_3 0 rfl)
theorem dX9_longest_49 : DE cX9_longest 49 (.iadd) 1 := dop_96 (dn_w dw160_3 1 rfl)
theorem dX9_longest_50 : DE cX9_longest 50 (.istore_n 3) 1 := dop_62 (dn_w dw160_3 2 rfl)
theorem dX9_longest_51 : DE cX9_longest 51 (.iload_n 3) 1 := dop_29 (dn_w dw160_3 3 rfl)
theorem dX9_longest_52 : DE cX9_longest 52 (.iload_n 2) 1 := dop_28 (dn_w dw160_3 4 rfl)
theorem dX9_longest_53 : DE cX9_longest 53 (.if_icmp .le 7) 3 := dop_164 (dn_w dw160_3 5 rfl) rfl
theorem dX9_longest_56 : DE cX9_longest 56 (.iload_n 3) 1 := dop_29 (dn_w dw160_3 8 rfl)
theorem dX9_longest_57 : DE cX9_longest 57 (.goto 4) 3 := dop_167 (dn_w dw160_3 9 rfl) rfl
theorem dX9_longest_60 : DE cX9_longest 60 (.iload_n 2) 1 := dop_28 (dn_w dw160_3 12 rfl)
theorem dX9_longest_61 : DE cX9_longest 61 (.istore_n 2) 1 := dop_61 (dn_w dw160_3 13 rfl)
theorem dX9_longest_62 : DE cX9_longest 62 (.iinc 4 1) 3 := dop_132 (dn_w dw160_3 14 rfl) rfl
theorem dX9_longest_65 : DE cX9_longest 65 (.goto (-48)) 3 := dop_167 (dn_w dw160_4 1 rfl) rfl
theorem dX9_longest_68 : DE cX9_longest 68 (.iload_n 2) 1 := dop_28 (dn_w dw160_4 4 rfl)
theorem dX9_longest_69 : DE cX9_longest 69 (.ireturn) 1 := dop_172 (dn_w dw160_4 5 rfl)
noncomputable def dt161_2 : List Nat := 255 :: 232 :: 42 :: 16 :: 25 :: 181 :: 0 :: 222 :: 177 :: []
noncomputable def dt161_1 : List Nat := 13 :: 16 :: 25 :: 27 :: 96 :: 42 :: 180 :: 0 :: 13 :: 27 :: 46 :: 79 :: 132 :: 1 :: 1 :: 167 :: dt161_2
noncomputable def dt161_0 : List Nat := 42 :: 3 :: 181 :: 0 :: 222 :: 3 :: 60 :: 27 :: 16 :: 25 :: 162 :: 0 :: 24 :: 42 :: 180 :: 0 :: dt161_1
theorem dw161_0 : dn cX9_lends 0 = dt161_0 := by decide +kernel
theorem dw161_1 : dn cX9_lends 16 = dt161_1 := dn_w dw161_0 16 rfl
theorem dw161_2 : dn cX9_lends 32 = dt161_2 := dn_w dw161_1 16 rfl
theorem dX9_lends_0 : DE cX9_lends 0 (.aload_n 0) 1 := dop_42 (dn_w dw161_0 0 rfl)
theorem dX9_lends_1 : DE cX9_lends 1 (.iconst 0) 1 := dop_3 (dn_w dw161_0 1 rfl)
theorem dX9_lends_2 : DE cX9_lends 2 (.putfield 222) 3 := dop_181 (dn_w dw161_0 2 rfl) rfl
theorem dX9_lends_5 : DE cX9_lends 5 (.iconst 0) 1 := dop_3 (dn_w dw161_0 5 rfl)
theorem dX9_lends_6 : DE cX9_lends 6 (.istore_n 1) 1 := dop_60 (dn_w dw161_0 6 rfl)
theorem dX9_lends_7 : DE cX9_lends 7 (.iload_n 1) 1 := dop_27 (dn_w dw161_0 7 rfl)
theorem dX9_lends_8 : DE cX9_lends 8 (.bipush 25) 2 := dop_16 (dn_w dw161_0 8 rfl) rfl
theorem dX9_lends_10 : DE cX9_lends 10 (.if_icmp .ge 24) 3 := dop_162 (dn_w dw161_0 10 rfl) rfl
theorem dX9_lends_13 : DE cX9_lends 13 (.aload_n 0) 1 := dop_42 (dn_w dw161_0 13 rfl)
theorem dX9_lends_14 : DE cX9_lends 14 (.getfield 13) 3 := dop_180 (dn_w dw161_0 14 rfl) rfl
theorem dX9_lends_17 : DE cX9_lends 17 (.bipush 25) 2 := dop_16 (dn_w dw161_1 1 rfl) rfl
theorem dX9_lends_19 : DE cX9_lends 19 (.iload_n 1) 1 := dop_27 (dn_w dw161_1 3 rfl)
theorem dX9_lends_20 : DE cX9_lends 20 (.iadd) 1 := dop_96 (dn_w dw161_1 4 rfl)
theorem dX9_lends_21 : DE cX9_lends 21 (.aload_n 0) 1 := dop_42 (dn_w dw161_1 5 rfl)
theorem dX9_lends_22 : DE cX9_lends 22 (.getfield 13) 3 := dop_180 (dn_w dw161_1 6 rfl) rfl
theorem dX9_lends_25 : DE cX9_lends 25 (.iload_n 1) 1 := dop_27 (dn_w dw161_1 9 rfl)
theorem dX9_lends_26 : DE cX9_lends 26 (.iaload) 1 := dop_46 (dn_w dw161_1 10 rfl)
theorem dX9_lends_27 : DE cX9_lends 27 (.iastore) 1 := dop_79 (dn_w dw161_1 11 rfl)
theorem dX9_lends_28 : DE cX9_lends 28 (.iinc 1 1) 3 := dop_132 (dn_w dw161_1 12 rfl) rfl
theorem dX9_lends_31 : DE cX9_lends 31 (.goto (-24)) 3 := dop_167 (dn_w dw161_1 15 rfl) rfl
theorem dX9_lends_34 : DE cX9_lends 34 (.aload_n 0) 1 := dop_42 (dn_w dw161_2 2 rfl)
theorem dX9_lends_35 : DE cX9_lends 35 (.bipush 25) 2 := dop_16 (dn_w dw161_2 3 rfl) rfl
theorem dX9_lends_37 : DE cX9_lends 37 (.putfield 222) 3 := dop_181 (dn_w dw161_2 5 rfl) rfl
theorem dX9_lends_40 : DE cX9_lends 40 (.return_) 1 := dop_177 (dn_w dw161_2 8 rfl)
noncomputable def dt162_2 : List Nat := 61 :: 132 :: 3 :: 1 :: 167 :: 255 :: 224 :: 28 :: 172 :: []
noncomputable def dt162_1 : List Nat := 222 :: 46 :: 16 :: 40 :: 162 :: 0 :: 19 :: 28 :: 42 :: 182 :: 0 :: 238 :: 184 :: 0 :: 244 :: 96 :: dt162_2
noncomputable def dt162_0 : List Nat := 3 :: 61 :: 3 :: 62 :: 29 :: 27 :: 162 :: 0 :: 33 :: 42 :: 180 :: 0 :: 13 :: 42 :: 180 :: 0 :: dt162_1
theorem dw162_0 : dn cX9_comes 0 = dt162_0 := by decide +kernel
theorem dw162_1 : dn cX9_comes 16 = dt162_1 := dn_w dw162_0 16 rfl
theorem dw162_2 : dn cX9_comes 32 = dt162_2 := dn_w dw162_1 16 rfl
theorem dX9_comes_0 : DE cX9_comes 0 (.iconst 0) 1 := dop_3 (dn_w dw162_0 0 rfl)
theorem dX9_comes_1 : DE cX9_comes 1 (.istore_n 2) 1 := dop_61 (dn_w dw162_0 1 rfl)
theorem dX9_comes_2 : DE cX9_comes 2 (.iconst 0) 1 := dop_3 (dn_w dw162_0 2 rfl)
theorem dX9_comes_3 : DE cX9_comes 3 (.istore_n 3) 1 := dop_62 (dn_w dw162_0 3 rfl)
theorem dX9_comes_4 : DE cX9_comes 4 (.iload_n 3) 1 := dop_29 (dn_w dw162_0 4 rfl)
theorem dX9_comes_5 : DE cX9_comes 5 (.iload_n 1) 1 := dop_27 (dn_w dw162_0 5 rfl)
theorem dX9_comes_6 : DE cX9_comes 6 (.if_icmp .ge 33) 3 := dop_162 (dn_w dw162_0 6 rfl) rfl
theorem dX9_comes_9 : DE cX9_comes 9 (.aload_n 0) 1 := dop_42 (dn_w dw162_0 9 rfl)
theorem dX9_comes_10 : DE cX9_comes 10 (.getfield 13) 3 := dop_180 (dn_w dw162_0 10 rfl) rfl
theorem dX9_comes_13 : DE cX9_comes 13 (.aload_n 0) 1 := dop_42 (dn_w dw162_0 13 rfl)
theorem dX9_comes_14 : DE cX9_comes 14 (.getfield 222) 3 := dop_180 (dn_w dw162_0 14 rfl) rfl
theorem dX9_comes_17 : DE cX9_comes 17 (.iaload) 1 := dop_46 (dn_w dw162_1 1 rfl)
theorem dX9_comes_18 : DE cX9_comes 18 (.bipush 40) 2 := dop_16 (dn_w dw162_1 2 rfl) rfl
theorem dX9_comes_20 : DE cX9_comes 20 (.if_icmp .ge 19) 3 := dop_162 (dn_w dw162_1 4 rfl) rfl
theorem dX9_comes_23 : DE cX9_comes 23 (.iload_n 2) 1 := dop_28 (dn_w dw162_1 7 rfl)
theorem dX9_comes_24 : DE cX9_comes 24 (.aload_n 0) 1 := dop_42 (dn_w dw162_1 8 rfl)
theorem dX9_comes_25 : DE cX9_comes 25 (.invokevirtual 238) 3 := dop_182 (dn_w dw162_1 9 rfl) rfl
theorem dX9_comes_28 : DE cX9_comes 28 (.invokestatic 244) 3 := dop_184 (dn_w dw162_1 12 rfl) rfl
theorem dX9_comes_31 : DE cX9_comes 31 (.iadd) 1 := dop_96 (dn_w dw162_1 15 rfl)
theorem dX9_comes_32 : DE cX9_comes 32 (.istore_n 2) 1 := dop_61 (dn_w dw162_2 0 rfl)
theorem dX9_comes_33 : DE cX9_comes 33 (.iinc 3 1) 3 := dop_132 (dn_w dw162_2 1 rfl) rfl
theorem dX9_comes_36 : DE cX9_comes 36 (.goto (-32)) 3 := dop_167 (dn_w dw162_2 4 rfl) rfl
theorem dX9_comes_39 : DE cX9_comes 39 (.iload_n 2) 1 := dop_28 (dn_w dw162_2 7 rfl)
theorem dX9_comes_40 : DE cX9_comes 40 (.ireturn) 1 := dop_172 (dn_w dw162_2 8 rfl)
noncomputable def dt163_1 : List Nat := 42 :: 27 :: 182 :: 0 :: 250 :: 61 :: 42 :: 3 :: 181 :: 0 :: 222 :: 28 :: 172 :: []
noncomputable def dt163_0 : List Nat := 27 :: 3 :: 16 :: 20 :: 184 :: 0 :: 87 :: 154 :: 0 :: 5 :: 2 :: 172 :: 42 :: 182 :: 0 :: 247 :: dt163_1
theorem dw163_0 : dn cX9_there 0 = dt163_0 := by decide +kernel
theorem dw163_1 : dn cX9_there 16 = dt163_1 := dn_w dw163_0 16 rfl
theorem dX9_there_0 : DE cX9_there 0 (.iload_n 1) 1 := dop_27 (dn_w dw163_0 0 rfl)
theorem dX9_there_1 : DE cX9_there 1 (.iconst 0) 1 := dop_3 (dn_w dw163_0 1 rfl)
theorem dX9_there_2 : DE cX9_there 2 (.bipush 20) 2 := dop_16 (dn_w dw163_0 2 rfl) rfl
theorem dX9_there_4 : DE cX9_there 4 (.invokestatic 87) 3 := dop_184 (dn_w dw163_0 4 rfl) rfl
theorem dX9_there_7 : DE cX9_there 7 (.ifCond .ne 5) 3 := dop_154 (dn_w dw163_0 7 rfl) rfl
theorem dX9_there_10 : DE cX9_there 10 (.iconst (-1)) 1 := dop_2 (dn_w dw163_0 10 rfl)
theorem dX9_there_11 : DE cX9_there 11 (.ireturn) 1 := dop_172 (dn_w dw163_0 11 rfl)
theorem dX9_there_12 : DE cX9_there 12 (.aload_n 0) 1 := dop_42 (dn_w dw163_0 12 rfl)
theorem dX9_there_13 : DE cX9_there 13 (.invokevirtual 247) 3 := dop_182 (dn_w dw163_0 13 rfl) rfl
theorem dX9_there_16 : DE cX9_there 16 (.aload_n 0) 1 := dop_42 (dn_w dw163_1 0 rfl)
theorem dX9_there_17 : DE cX9_there 17 (.iload_n 1) 1 := dop_27 (dn_w dw163_1 1 rfl)
theorem dX9_there_18 : DE cX9_there 18 (.invokevirtual 250) 3 := dop_182 (dn_w dw163_1 2 rfl) rfl
theorem dX9_there_21 : DE cX9_there 21 (.istore_n 2) 1 := dop_61 (dn_w dw163_1 5 rfl)
theorem dX9_there_22 : DE cX9_there 22 (.aload_n 0) 1 := dop_42 (dn_w dw163_1 6 rfl)
theorem dX9_there_23 : DE cX9_there 23 (.iconst 0) 1 := dop_3 (dn_w dw163_1 7 rfl)
theorem dX9_there_24 : DE cX9_there 24 (.putfield 222) 3 := dop_181 (dn_w dw163_1 8 rfl) rfl
theorem dX9_there_27 : DE cX9_there 27 (.iload_n 2) 1 := dop_28 (dn_w dw163_1 11 rfl)
theorem dX9_there_28 : DE cX9_there 28 (.ireturn) 1 := dop_172 (dn_w dw163_1 12 rfl)
noncomputable def dt164_8 : List Nat := 5 :: 21 :: 5 :: 172 :: []
noncomputable def dt164_7 : List Nat := 54 :: 4 :: 132 :: 6 :: 1 :: 167 :: 255 :: 178 :: 29 :: 154 :: 0 :: 8 :: 21 :: 4 :: 167 :: 0 :: dt164_8
noncomputable def dt164_6 : List Nat := 0 :: 244 :: 21 :: 4 :: 184 :: 0 :: 244 :: 162 :: 0 :: 11 :: 21 :: 8 :: 54 :: 5 :: 21 :: 6 :: dt164_7
noncomputable def dt164_5 : List Nat := 8 :: 21 :: 5 :: 163 :: 0 :: 23 :: 21 :: 8 :: 21 :: 5 :: 160 :: 0 :: 24 :: 21 :: 6 :: 184 :: dt164_6
noncomputable def dt164_4 : List Nat := 241 :: 54 :: 7 :: 42 :: 28 :: 182 :: 0 :: 250 :: 54 :: 8 :: 42 :: 3 :: 181 :: 0 :: 222 :: 21 :: dt164_5
noncomputable def dt164_3 : List Nat := 184 :: 0 :: 244 :: 27 :: 163 :: 0 :: 62 :: 42 :: 182 :: 0 :: 247 :: 42 :: 21 :: 6 :: 182 :: 0 :: dt164_4
noncomputable def dt164_2 : List Nat := 4 :: 2 :: 54 :: 5 :: 3 :: 54 :: 6 :: 21 :: 6 :: 16 :: 64 :: 162 :: 0 :: 77 :: 21 :: 6 :: dt164_3
noncomputable def dt164_1 : List Nat := 153 :: 0 :: 12 :: 29 :: 3 :: 4 :: 184 :: 0 :: 87 :: 154 :: 0 :: 5 :: 2 :: 172 :: 3 :: 54 :: dt164_2
noncomputable def dt164_0 : List Nat := 27 :: 4 :: 6 :: 184 :: 0 :: 87 :: 153 :: 0 :: 22 :: 28 :: 3 :: 16 :: 20 :: 184 :: 0 :: 87 :: dt164_1
theorem dw164_0 : dn cX9_round 0 = dt164_0 := by decide +kernel
theorem dw164_1 : dn cX9_round 16 = dt164_1 := dn_w dw164_0 16 rfl
theorem dw164_2 : dn cX9_round 32 = dt164_2 := dn_w dw164_1 16 rfl
theorem dw164_3 : dn cX9_round 48 = dt164_3 := dn_w dw164_2 16 rfl
theorem dw164_4 : dn cX9_round 64 = dt164_4 := dn_w dw164_3 16 rfl
theorem dw164_5 : dn cX9_round 80 = dt164_5 := dn_w dw164_4 16 rfl
theorem dw164_6 : dn cX9_round 96 = dt164_6 := dn_w dw164_5 16 rfl
theorem dw164_7 : dn cX9_round 112 = dt164_7 := dn_w dw164_6 16 rfl
theorem dw164_8 : dn cX9_round 128 = dt164_8 := dn_w dw164_7 16 rfl
theorem dX9_round_0 : DE cX9_round 0 (.iload_n 1) 1 := dop_27 (dn_w dw164_0 0 rfl)
theorem dX9_round_1 : DE cX9_round 1 (.iconst 1) 1 := dop_4 (dn_w dw164_0 1 rfl)
theorem dX9_round_2 : DE cX9_round 2 (.iconst 3) 1 := dop_6 (dn_w dw164_0 2 rfl)
theorem dX9_round_3 : DE cX9_round 3 (.invokestatic 87) 3 := dop_184 (dn_w dw164_0 3 rfl) rfl
theorem dX9_round_6 : DE cX9_round 6 (.ifCond .eq 22) 3 := dop_153 (dn_w dw164_0 6 rfl) rfl
theorem dX9_round_9 : DE cX9_round 9 (.iload_n 2) 1 := dop_28 (dn_w dw164_0 9 rfl)
theorem dX9_round_10 : DE cX9_round 10 (.iconst 0) 1 := dop_3 (dn_w dw164_0 10 rfl)
theorem dX9_round_11 : DE cX9_round 11 (.bipush 20) 2 := dop_16 (dn_w dw164_0 11 rfl) rfl
theorem dX9_round_13 : DE cX9_round 13 (.invokestatic 87) 3 := dop_184 (dn_w dw164_0 13 rfl) rfl
theorem dX9_round_16 : DE cX9_round 16 (.ifCond .eq 12) 3 := dop_153 (dn_w dw164_1 0 rfl) rfl
theorem dX9_round_19 : DE cX9_round 19 (.iload_n 3) 1 := dop_29 (dn_w dw164_1 3 rfl)
theorem dX9_round_20 : DE cX9_round 20 (.iconst 0) 1 := dop_3 (dn_w dw164_1 4 rfl)
theorem dX9_round_21 : DE cX9_round 21 (.iconst 1) 1 := dop_4 (dn_w dw164_1 5 rfl)
theorem dX9_round_22 : DE cX9_round 22 (.invokestatic 87) 3 := dop_184 (dn_w dw164_1 6 rfl) rfl
theorem dX9_round_25 : DE cX9_round 25 (.ifCond .ne 5) 3 := dop_154 (dn_w dw164_1 9 rfl) rfl
theorem dX9_round_28 : DE cX9_round 28 (.iconst (-1)) 1 := dop_2 (dn_w dw164_1 12 rfl)
theorem dX9_round_29 : DE cX9_round 29 (.ireturn) 1 := dop_172 (dn_w dw164_1 13 rfl)
theorem dX9_round_30 : DE cX9_round 30 (.iconst 0) 1 := dop_3 (dn_w dw164_1 14 rfl)
theorem dX9_round_31 : DE cX9_round 31 (.istore 4) 2 := dop_54 (dn_w dw164_1 15 rfl)
theorem dX9_round_33 : DE cX9_round 33 (.iconst (-1)) 1 := dop_2 (dn_w dw164_2 1 rfl)
theorem dX9_round_34 : DE cX9_round 34 (.istore 5) 2 := dop_54 (dn_w dw164_2 2 rfl)
theorem dX9_round_36 : DE cX9_round 36 (.iconst 0) 1 := dop_3 (dn_w dw164_2 4 rfl)
theorem dX9_round_37 : DE cX9_round 37 (.istore 6) 2 := dop_54 (dn_w dw164_2 5 rfl)
theorem dX9_round_39 : DE cX9_round 39 (.iload 6) 2 := dop_21 (dn_w dw164_2 7 rfl)
theorem dX9_round_41 : DE cX9_round 41 (.bipush 64) 2 := dop_16 (dn_w dw164_2 9 rfl) rfl
theorem dX9_round_43 : DE cX9_round 43 (.if_icmp .ge 77) 3 := dop_162 (dn_w dw164_2 11 rfl) rfl
theorem dX9_round_46 : DE cX9_round 46 (.iload 6) 2 := dop_21 (dn_w dw164_2 14 rfl)
theorem dX9_round_48 : DE cX9_round 48 (.invokestatic 244) 3 := dop_184 (dn_w dw164_3 0 rfl) rfl
theorem dX9_round_51 : DE cX9_round 51 (.iload_n 1) 1 := dop_27 (dn_w dw164_3 3 rfl)
theorem dX9_round_52 : DE cX9_round 52 (.if_icmp .gt 62) 3 := dop_163 (dn_w dw164_3 4 rfl) rfl
theorem dX9_round_55 : DE cX9_round 55 (.aload_n 0) 1 := dop_42 (dn_w dw164_3 7 rfl)
theorem dX9_round_56 : DE cX9_round 56 (.invokevirtual 247) 3 := dop_182 (dn_w dw164_3 8 rfl) rfl
theorem dX9_round_59 : DE cX9_round 59 (.aload_n 0) 1 := dop_42 (dn_w dw164_3 11 rfl)
theorem dX9_round_60 : DE cX9_round 60 (.iload 6) 2 := dop_21 (dn_w dw164_3 12 rfl)
theorem dX9_round_62 : DE cX9_round 62 (.invokevirtual 241) 3 := dop_182 (dn_w dw164_3 14 rfl) rfl
theorem dX9_round_65 : DE cX9_round 65 (.istore 7) 2 := dop_54 (dn_w dw164_4 1 rfl)
theorem dX9_round_67 : DE cX9_round 67 (.aload_n 0) 1 := dop_42 (dn_w dw164_4 3 rfl)
theorem dX9_round_68 : DE cX9_round 68 (.iload_n 2) 1 := dop_28 (dn_w dw164_4 4 rfl)
theorem dX9_round_69 : DE cX9_round 69 (.invokevirtual 250) 3 := dop_182 (dn_w dw164_4 5 rfl) rfl
theorem dX9_round_72 : DE cX9_round 72 (.istore 8) 2 := dop_54 (dn_w dw164_4 8 rfl)
theorem dX9_round_74 : DE cX9_round 74 (.aload_n 0) 1 := dop_42 (dn_w dw164_4 10 rfl)
theorem dX9_round_75 : DE cX9_round 75 (.iconst 0) 1 := dop_3 (dn_w dw164_4 11 rfl)
theorem dX9_round_76 : DE cX9_round 76 (.putfield 222) 3 := dop_181 (dn_w dw164_4 12 rfl) rfl
theorem dX9_round_79 : DE cX9_round 79 (.iload 8) 2 := dop_21 (dn_w dw164_4 15 rfl)
theorem dX9_round_81 : DE cX9_round 81 (.iload 5) 2 := dop_21 (dn_w dw164_5 1 rfl)
theorem dX9_round_83 : DE cX9_round 83 (.if_icmp .gt 23) 3 := dop_163 (dn_w dw164_5 3 rfl) rfl
theorem dX9_round_86 : DE cX9_round 86 (.iload 8) 2 := dop_21 (dn_w dw164_5 6 rfl)
theorem dX9_round_88 : DE cX9_round 88 (.iload 5) 2 := dop_21 (dn_w dw164_5 8 rfl)
theorem dX9_round_90 : DE cX9_round 90 (.if_icmp .ne 24) 3 := dop_160 (dn_w dw164_5 10 rfl) rfl
theorem dX9_round_93 : DE cX9_round 93 (.iload 6) 2 := dop_21 (dn_w dw164_5 13 rfl)
theorem dX9_round_95 : DE cX9_round 95 (.invokestatic 244) 3 := dop_184 (dn_w dw164_5 15 rfl) rfl
theorem dX9_round_98 : DE cX9_round 98 (.iload 4) 2 := dop_21 (dn_w dw164_6 2 rfl)
theorem dX9_round_100 : DE cX9_round 100 (.invokestatic 244) 3 := dop_184 (dn_w dw164_6 4 rfl) rfl
theorem dX9_round_103 : DE cX9_round 103 (.if_icmp .ge 11) 3 := dop_162 (dn_w dw164_6 7 rfl) rfl
theorem dX9_round_106 : DE cX9_round 106 (.iload 8) 2 := dop_21 (dn_w dw164_6 10 rfl)
theorem dX9_round_108 : DE cX9_round 108 (.istore 5) 2 := dop_54 (dn_w dw164_6 12 rfl)
theorem dX9_round_110 : DE cX9_round 110 (.iload 6) 2 := dop_21 (dn_w dw164_6 14 rfl)
theorem dX9_round_112 : DE cX9_round 112 (.istore 4) 2 := dop_54 (dn_w dw164_7 0 rfl)
theorem dX9_round_114 : DE cX9_round 114 (.iinc 6 1) 3 := dop_132 (dn_w dw164_7 2 rfl) rfl
theorem dX9_round_117 : DE cX9_round 117 (.goto (-78)) 3 := dop_167 (dn_w dw164_7 5 rfl) rfl
theorem dX9_round_120 : DE cX9_round 120 (.iload_n 3) 1 := dop_29 (dn_w dw164_7 8 rfl)
theorem dX9_round_121 : DE cX9_round 121 (.ifCond .ne 8) 3 := dop_154 (dn_w dw164_7 9 rfl) rfl
theorem dX9_round_124 : DE cX9_round 124 (.iload 4) 2 := dop_21 (dn_w dw164_7 12 rfl)
theorem dX9_round_126 : DE cX9_round 126 (.goto 5) 3 := dop_167 (dn_w dw164_7 14 rfl) rfl
theorem dX9_round_129 : DE cX9_round 129 (.iload 5) 2 := dop_21 (dn_w dw164_8 1 rfl)
theorem dX9_round_131 : DE cX9_round 131 (.ireturn) 1 := dop_172 (dn_w dw164_8 3 rfl)
noncomputable def dt165_7 : List Nat := 181 :: 0 :: 222 :: 28 :: 172 :: []
noncomputable def dt165_6 : List Nat := 0 :: 222 :: 46 :: 4 :: 100 :: 167 :: 0 :: 5 :: 16 :: 253 :: 61 :: 167 :: 255 :: 193 :: 42 :: 3 :: dt165_7
noncomputable def dt165_5 : List Nat := 46 :: 42 :: 180 :: 0 :: 25 :: 4 :: 46 :: 161 :: 0 :: 17 :: 42 :: 180 :: 0 :: 13 :: 42 :: 180 :: dt165_6
noncomputable def dt165_4 : List Nat := 0 :: 238 :: 62 :: 42 :: 180 :: 0 :: 13 :: 42 :: 180 :: 0 :: 222 :: 16 :: 17 :: 96 :: 27 :: 96 :: dt165_5
noncomputable def dt165_3 : List Nat := 42 :: 180 :: 0 :: 222 :: 46 :: 16 :: 40 :: 162 :: 0 :: 55 :: 28 :: 156 :: 0 :: 51 :: 42 :: 182 :: dt165_4
noncomputable def dt165_2 : List Nat := 3 :: 46 :: 4 :: 100 :: 172 :: 42 :: 182 :: 0 :: 247 :: 16 :: 253 :: 61 :: 42 :: 180 :: 0 :: 13 :: dt165_3
noncomputable def dt165_1 : List Nat := 27 :: 96 :: 46 :: 42 :: 180 :: 0 :: 25 :: 4 :: 46 :: 161 :: 0 :: 12 :: 42 :: 180 :: 0 :: 13 :: dt165_2
noncomputable def dt165_0 : List Nat := 42 :: 27 :: 182 :: 0 :: 206 :: 154 :: 0 :: 5 :: 2 :: 172 :: 42 :: 180 :: 0 :: 13 :: 16 :: 17 :: dt165_1
theorem dw165_0 : dn cX9_good 0 = dt165_0 := by decide +kernel
theorem dw165_1 : dn cX9_good 16 = dt165_1 := dn_w dw165_0 16 rfl
theorem dw165_2 : dn cX9_good 32 = dt165_2 := dn_w dw165_1 16 rfl
theorem dw165_3 : dn cX9_good 48 = dt165_3 := dn_w dw165_2 16 rfl
theorem dw165_4 : dn cX9_good 64 = dt165_4 := dn_w dw165_3 16 rfl
theorem dw165_5 : dn cX9_good 80 = dt165_5 := dn_w dw165_4 16 rfl
theorem dw165_6 : dn cX9_good 96 = dt165_6 := dn_w dw165_5 16 rfl
theorem dw165_7 : dn cX9_good 112 = dt165_7 := dn_w dw165_6 16 rfl
theorem dX9_good_0 : DE cX9_good 0 (.aload_n 0) 1 := dop_42 (dn_w dw165_0 0 rfl)
theorem dX9_good_1 : DE cX9_good 1 (.iload_n 1) 1 := dop_27 (dn_w dw165_0 1 rfl)
theorem dX9_good_2 : DE cX9_good 2 (.invokevirtual 206) 3 := dop_182 (dn_w dw165_0 2 rfl) rfl
theorem dX9_good_5 : DE cX9_good 5 (.ifCond .ne 5) 3 := dop_154 (dn_w dw165_0 5 rfl) rfl
theorem dX9_good_8 : DE cX9_good 8 (.iconst (-1)) 1 := dop_2 (dn_w dw165_0 8 rfl)
theorem dX9_good_9 : DE cX9_good 9 (.ireturn) 1 := dop_172 (dn_w dw165_0 9 rfl)
theorem dX9_good_10 : DE cX9_good 10 (.aload_n 0) 1 := dop_42 (dn_w dw165_0 10 rfl)
theorem dX9_good_11 : DE cX9_good 11 (.getfield 13) 3 := dop_180 (dn_w dw165_0 11 rfl) rfl
theorem dX9_good_14 : DE cX9_good 14 (.bipush 17) 2 := dop_16 (dn_w dw165_0 14 rfl) rfl
theorem dX9_good_16 : DE cX9_good 16 (.iload_n 1) 1 := dop_27 (dn_w dw165_1 0 rfl)
theorem dX9_good_17 : DE cX9_good 17 (.iadd) 1 := dop_96 (dn_w dw165_1 1 rfl)
theorem dX9_good_18 : DE cX9_good 18 (.iaload) 1 := dop_46 (dn_w dw165_1 2 rfl)
theorem dX9_good_19 : DE cX9_good 19 (.aload_n 0) 1 := dop_42 (dn_w dw165_1 3 rfl)
theorem dX9_good_20 : DE cX9_good 20 (.getfield 25) 3 := dop_180 (dn_w dw165_1 4 rfl) rfl
theorem dX9_good_23 : DE cX9_good 23 (.iconst 1) 1 := dop_4 (dn_w dw165_1 7 rfl)
theorem dX9_good_24 : DE cX9_good 24 (.iaload) 1 := dop_46 (dn_w dw165_1 8 rfl)
theorem dX9_good_25 : DE cX9_good 25 (.if_icmp .lt 12) 3 := dop_161 (dn_w dw165_1 9 rfl) rfl
theorem dX9_good_28 : DE cX9_good 28 (.aload_n 0) 1 := dop_42 (dn_w dw165_1 12 rfl)
theorem dX9_good_29 : DE cX9_good 29 (.getfield 13) 3 := dop_180 (dn_w dw165_1 13 rfl) rfl
theorem dX9_good_32 : DE cX9_good 32 (.iconst 0) 1 := dop_3 (dn_w dw165_2 0 rfl)
theorem dX9_good_33 : DE cX9_good 33 (.iaload) 1 := dop_46 (dn_w dw165_2 1 rfl)
theorem dX9_good_34 : DE cX9_good 34 (.iconst 1) 1 := dop_4 (dn_w dw165_2 2 rfl)
theorem dX9_good_35 : DE cX9_good 35 (.isub) 1 := dop_100 (dn_w dw165_2 3 rfl)
theorem dX9_good_36 : DE cX9_good 36 (.ireturn) 1 := dop_172 (dn_w dw165_2 4 rfl)
theorem dX9_good_37 : DE cX9_good 37 (.aload_n 0) 1 := dop_42 (dn_w dw165_2 5 rfl)
theorem dX9_good_38 : DE cX9_good 38 (.invokevirtual 247) 3 := dop_182 (dn_w dw165_2 6 rfl) rfl
theorem dX9_good_41 : DE cX9_good 41 (.bipush (-3)) 2 := dop_16 (dn_w dw165_2 9 rfl) rfl
theorem dX9_good_43 : DE cX9_good 43 (.istore_n 2) 1 := dop_61 (dn_w dw165_2 11 rfl)
theorem dX9_good_44 : DE cX9_good 44 (.aload_n 0) 1 := dop_42 (dn_w dw165_2 12 rfl)
theorem dX9_good_45 : DE cX9_good 45 (.getfield 13) 3 := dop_180 (dn_w dw165_2 13 rfl) rfl
theorem dX9_good_48 : DE cX9_good 48 (.aload_n 0) 1 := dop_42 (dn_w dw165_3 0 rfl)
theorem dX9_good_49 : DE cX9_good 49 (.getfield 222) 3 := dop_180 (dn_w dw165_3 1 rfl) rfl
theorem dX9_good_52 : DE cX9_good 52 (.iaload) 1 := dop_46 (dn_w dw165_3 4 rfl)
theorem dX9_good_53 : DE cX9_good 53 (.bipush 40) 2 := dop_16 (dn_w dw165_3 5 rfl) rfl
theorem dX9_good_55 : DE cX9_good 55 (.if_icmp .ge 55) 3 := dop_162 (dn_w dw165_3 7 rfl) rfl
theorem dX9_good_58 : DE cX9_good 58 (.iload_n 2) 1 := dop_28 (dn_w dw165_3 10 rfl)
theorem dX9_good_59 : DE cX9_good 59 (.ifCond .ge 51) 3 := dop_156 (dn_w dw165_3 11 rfl) rfl
theorem dX9_good_62 : DE cX9_good 62 (.aload_n 0) 1 := dop_42 (dn_w dw165_3 14 rfl)
theorem dX9_good_63 : DE cX9_good 63 (.invokevirtual 238) 3 := dop_182 (dn_w dw165_3 15 rfl) rfl
theorem dX9_good_66 : DE cX9_good 66 (.istore_n 3) 1 := dop_62 (dn_w dw165_4 2 rfl)
theorem dX9_good_67 : DE cX9_good 67 (.aload_n 0) 1 := dop_42 (dn_w dw165_4 3 rfl)
theorem dX9_good_68 : DE cX9_good 68 (.getfield 13) 3 := dop_180 (dn_w dw165_4 4 rfl) rfl
theorem dX9_good_71 : DE cX9_good 71 (.aload_n 0) 1 := dop_42 (dn_w dw165_4 7 rfl)
theorem dX9_good_72 : DE cX9_good 72 (.getfield 222) 3 := dop_180 (dn_w dw165_4 8 rfl) rfl
theorem dX9_good_75 : DE cX9_good 75 (.bipush 17) 2 := dop_16 (dn_w dw165_4 11 rfl) rfl
theorem dX9_good_77 : DE cX9_good 77 (.iadd) 1 := dop_96 (dn_w dw165_4 13 rfl)
theorem dX9_good_78 : DE cX9_good 78 (.iload_n 1) 1 := dop_27 (dn_w dw165_4 14 rfl)
theorem dX9_good_79 : DE cX9_good 79 (.iadd) 1 := dop_96 (dn_w dw165_4 15 rfl)
theorem dX9_good_80 : DE cX9_good 80 (.iaload) 1 := dop_46 (dn_w dw165_5 0 rfl)
theorem dX9_good_81 : DE cX9_good 81 (.aload_n 0) 1 := dop_42 (dn_w dw165_5 1 rfl)
theorem dX9_good_82 : DE cX9_good 82 (.getfield 25) 3 := dop_180 (dn_w dw165_5 2 rfl) rfl
theorem dX9_good_85 : DE cX9_good 85 (.iconst 1) 1 := dop_4 (dn_w dw165_5 5 rfl)
theorem dX9_good_86 : DE cX9_good 86 (.iaload) 1 := dop_46 (dn_w dw165_5 6 rfl)
theorem dX9_good_87 : DE cX9_good 87 (.if_icmp .lt 17) 3 := dop_161 (dn_w dw165_5 7 rfl) rfl
theorem dX9_good_90 : DE cX9_good 90 (.aload_n 0) 1 := dop_42 (dn_w dw165_5 10 rfl)
theorem dX9_good_91 : DE cX9_good 91 (.getfield 13) 3 := dop_180 (dn_w dw165_5 11 rfl) rfl
theorem dX9_good_94 : DE cX9_good 94 (.aload_n 0) 1 := dop_42 (dn_w dw165_5 14 rfl)
theorem dX9_good_95 : DE cX9_good 95 (.getfield 222) 3 := dop_180 (dn_w dw165_5 15 rfl) rfl
theorem dX9_good_98 : DE cX9_good 98 (.iaload) 1 := dop_46 (dn_w dw165_6 2 rfl)
theorem dX9_good_99 : DE cX9_good 99 (.iconst 1) 1 := dop_4 (dn_w dw165_6 3 rfl)
theorem dX9_good_100 : DE cX9_good 100 (.isub) 1 := dop_100 (dn_w dw165_6 4 rfl)
theorem dX9_good_101 : DE cX9_good 101 (.goto 5) 3 := dop_167 (dn_w dw165_6 5 rfl) rfl
theorem dX9_good_104 : DE cX9_good 104 (.bipush (-3)) 2 := dop_16 (dn_w dw165_6 8 rfl) rfl
theorem dX9_good_106 : DE cX9_good 106 (.istore_n 2) 1 := dop_61 (dn_w dw165_6 10 rfl)
theorem dX9_good_107 : DE cX9_good 107 (.goto (-63)) 3 := dop_167 (dn_w dw165_6 11 rfl) rfl
theorem dX9_good_110 : DE cX9_good 110 (.aload_n 0) 1 := dop_42 (dn_w dw165_6 14 rfl)
theorem dX9_good_111 : DE cX9_good 111 (.iconst 0) 1 := dop_3 (dn_w dw165_6 15 rfl)
theorem dX9_good_112 : DE cX9_good 112 (.putfield 222) 3 := dop_181 (dn_w dw165_7 0 rfl) rfl
theorem dX9_good_115 : DE cX9_good 115 (.iload_n 2) 1 := dop_28 (dn_w dw165_7 3 rfl)
theorem dX9_good_116 : DE cX9_good 116 (.ireturn) 1 := dop_172 (dn_w dw165_7 4 rfl)
noncomputable def dt166_6 : List Nat := 21 :: 4 :: 172 :: []
noncomputable def dt166_5 : List Nat := 4 :: 126 :: 96 :: 54 :: 4 :: 132 :: 5 :: 1 :: 167 :: 255 :: 211 :: 42 :: 3 :: 181 :: 0 :: 222 :: dt166_6
noncomputable def dt166_4 : List Nat := 182 :: 0 :: 238 :: 54 :: 6 :: 21 :: 4 :: 21 :: 6 :: 27 :: 122 :: 21 :: 6 :: 28 :: 122 :: 126 :: dt166_5
noncomputable def dt166_3 : List Nat := 45 :: 42 :: 180 :: 0 :: 13 :: 42 :: 180 :: 0 :: 222 :: 46 :: 16 :: 40 :: 162 :: 0 :: 31 :: 42 :: dt166_4
noncomputable def dt166_2 : List Nat := 172 :: 42 :: 182 :: 0 :: 247 :: 3 :: 54 :: 4 :: 3 :: 54 :: 5 :: 21 :: 5 :: 29 :: 162 :: 0 :: dt166_3
noncomputable def dt166_1 : List Nat := 27 :: 28 :: 159 :: 0 :: 13 :: 29 :: 3 :: 16 :: 20 :: 184 :: 0 :: 87 :: 154 :: 0 :: 5 :: 2 :: dt166_2
noncomputable def dt166_0 : List Nat := 42 :: 27 :: 182 :: 0 :: 206 :: 153 :: 0 :: 26 :: 42 :: 28 :: 182 :: 0 :: 206 :: 153 :: 0 :: 18 :: dt166_1
theorem dw166_0 : dn cX9_meet 0 = dt166_0 := by decide +kernel
theorem dw166_1 : dn cX9_meet 16 = dt166_1 := dn_w dw166_0 16 rfl
theorem dw166_2 : dn cX9_meet 32 = dt166_2 := dn_w dw166_1 16 rfl
theorem dw166_3 : dn cX9_meet 48 = dt166_3 := dn_w dw166_2 16 rfl
theorem dw166_4 : dn cX9_meet 64 = dt166_4 := dn_w dw166_3 16 rfl
theorem dw166_5 : dn cX9_meet 80 = dt166_5 := dn_w dw166_4 16 rfl
theorem dw166_6 : dn cX9_meet 96 = dt166_6 := dn_w dw166_5 16 rfl
theorem dX9_meet_0 : DE cX9_meet 0 (.aload_n 0) 1 := dop_42 (dn_w dw166_0 0 rfl)
theorem dX9_meet_1 : DE cX9_meet 1 (.iload_n 1) 1 := dop_27 (dn_w dw166_0 1 rfl)
theorem dX9_meet_2 : DE cX9_meet 2 (.invokevirtual 206) 3 := dop_182 (dn_w dw166_0 2 rfl) rfl
theorem dX9_meet_5 : DE cX9_meet 5 (.ifCond .eq 26) 3 := dop_153 (dn_w dw166_0 5 rfl) rfl
theorem dX9_meet_8 : DE cX9_meet 8 (.aload_n 0) 1 := dop_42 (dn_w dw166_0 8 rfl)
theorem dX9_meet_9 : DE cX9_meet 9 (.iload_n 2) 1 := dop_28 (dn_w dw166_0 9 rfl)
theorem dX9_meet_10 : DE cX9_meet 10 (.invokevirtual 206) 3 := dop_182 (dn_w dw166_0 10 rfl) rfl
theorem dX9_meet_13 : DE cX9_meet 13 (.ifCond .eq 18) 3 := dop_153 (dn_w dw166_0 13 rfl) rfl
theorem dX9_meet_16 : DE cX9_meet 16 (.iload_n 1) 1 := dop_27 (dn_w dw166_1 0 rfl)
theorem dX9_meet_17 : DE cX9_meet 17 (.iload_n 2) 1 := dop_28 (dn_w dw166_1 1 rfl)
theorem dX9_meet_18 : DE cX9_meet 18 (.if_icmp .eq 13) 3 := dop_159 (dn_w dw166_1 2 rfl) rfl
theorem dX9_meet_21 : DE cX9_meet 21 (.iload_n 3) 1 := dop_29 (dn_w dw166_1 5 rfl)
theorem dX9_meet_22 : DE cX9_meet 22 (.iconst 0) 1 := dop_3 (dn_w dw166_1 6 rfl)
theorem dX9_meet_23 : DE cX9_meet 23 (.bipush 20) 2 := dop_16 (dn_w dw166_1 7 rfl) rfl
theorem dX9_meet_25 : DE cX9_meet 25 (.invokestatic 87) 3 := dop_184 (dn_w dw166_1 9 rfl) rfl
theorem dX9_meet_28 : DE cX9_meet 28 (.ifCond .ne 5) 3 := dop_154 (dn_w dw166_1 12 rfl) rfl
theorem dX9_meet_31 : DE cX9_meet 31 (.iconst (-1)) 1 := dop_2 (dn_w dw166_1 15 rfl)
theorem dX9_meet_32 : DE cX9_meet 32 (.ireturn) 1 := dop_172 (dn_w dw166_2 0 rfl)
theorem dX9_meet_33 : DE cX9_meet 33 (.aload_n 0) 1 := dop_42 (dn_w dw166_2 1 rfl)
theorem dX9_meet_34 : DE cX9_meet 34 (.invokevirtual 247) 3 := dop_182 (dn_w dw166_2 2 rfl) rfl
theorem dX9_meet_37 : DE cX9_meet 37 (.iconst 0) 1 := dop_3 (dn_w dw166_2 5 rfl)
theorem dX9_meet_38 : DE cX9_meet 38 (.istore 4) 2 := dop_54 (dn_w dw166_2 6 rfl)
theorem dX9_meet_40 : DE cX9_meet 40 (.iconst 0) 1 := dop_3 (dn_w dw166_2 8 rfl)
theorem dX9_meet_41 : DE cX9_meet 41 (.istore 5) 2 := dop_54 (dn_w dw166_2 9 rfl)
theorem dX9_meet_43 : DE cX9_meet 43 (.iload 5) 2 := dop_21 (dn_w dw166_2 11 rfl)
theorem dX9_meet_45 : DE cX9_meet 45 (.iload_n 3) 1 := dop_29 (dn_w dw166_2 13 rfl)
theorem dX9_meet_46 : DE cX9_meet 46 (.if_icmp .ge 45) 3 := dop_162 (dn_w dw166_2 14 rfl) rfl
theorem dX9_meet_49 : DE cX9_meet 49 (.aload_n 0) 1 := dop_42 (dn_w dw166_3 1 rfl)
theorem dX9_meet_50 : DE cX9_meet 50 (.getfield 13) 3 := dop_180 (dn_w dw166_3 2 rfl) rfl
theorem dX9_meet_53 : DE cX9_meet 53 (.aload_n 0) 1 := dop_42 (dn_w dw166_3 5 rfl)
theorem dX9_meet_54 : DE cX9_meet 54 (.getfield 222) 3 := dop_180 (dn_w dw166_3 6 rfl) rfl
theorem dX9_meet_57 : DE cX9_meet 57 (.iaload) 1 := dop_46 (dn_w dw166_3 9 rfl)
theorem dX9_meet_58 : DE cX9_meet 58 (.bipush 40) 2 := dop_16 (dn_w dw166_3 10 rfl) rfl
theorem dX9_meet_60 : DE cX9_meet 60 (.if_icmp .ge 31) 3 := dop_162 (dn_w dw166_3 12 rfl) rfl
theorem dX9_meet_63 : DE cX9_meet 63 (.aload_n 0) 1 := dop_42 (dn_w dw166_3 15 rfl)
theorem dX9_meet_64 : DE cX9_meet 64 (.invokevirtual 238) 3 := dop_182 (dn_w dw166_4 0 rfl) rfl
theorem dX9_meet_67 : DE cX9_meet 67 (.istore 6) 2 := dop_54 (dn_w dw166_4 3 rfl)
theorem dX9_meet_69 : DE cX9_meet 69 (.iload 4) 2 := dop_21 (dn_w dw166_4 5 rfl)
theorem dX9_meet_71 : DE cX9_meet 71 (.iload 6) 2 := dop_21 (dn_w dw166_4 7 rfl)
theorem dX9_meet_73 : DE cX9_meet 73 (.iload_n 1) 1 := dop_27 (dn_w dw166_4 9 rfl)
theorem dX9_meet_74 : DE cX9_meet 74 (.ishr) 1 := dop_122 (dn_w dw166_4 10 rfl)
theorem dX9_meet_75 : DE cX9_meet 75 (.iload 6) 2 := dop_21 (dn_w dw166_4 11 rfl)
theorem dX9_meet_77 : DE cX9_meet 77 (.iload_n 2) 1 := dop_28 (dn_w dw166_4 13 rfl)
theorem dX9_meet_78 : DE cX9_meet 78 (.ishr) 1 := dop_122 (dn_w dw166_4 14 rfl)
theorem dX9_meet_79 : DE cX9_meet 79 (.iand) 1 := dop_126 (dn_w dw166_4 15 rfl)
theorem dX9_meet_80 : DE cX9_meet 80 (.iconst 1) 1 := dop_4 (dn_w dw166_5 0 rfl)
theorem dX9_meet_81 : DE cX9_meet 81 (.iand) 1 := dop_126 (dn_w dw166_5 1 rfl)
theorem dX9_meet_82 : DE cX9_meet 82 (.iadd) 1 := dop_96 (dn_w dw166_5 2 rfl)
theorem dX9_meet_83 : DE cX9_meet 83 (.istore 4) 2 := dop_54 (dn_w dw166_5 3 rfl)
theorem dX9_meet_85 : DE cX9_meet 85 (.iinc 5 1) 3 := dop_132 (dn_w dw166_5 5 rfl) rfl
theorem dX9_meet_88 : DE cX9_meet 88 (.goto (-45)) 3 := dop_167 (dn_w dw166_5 8 rfl) rfl
theorem dX9_meet_91 : DE cX9_meet 91 (.aload_n 0) 1 := dop_42 (dn_w dw166_5 11 rfl)
theorem dX9_meet_92 : DE cX9_meet 92 (.iconst 0) 1 := dop_3 (dn_w dw166_5 12 rfl)
theorem dX9_meet_93 : DE cX9_meet 93 (.putfield 222) 3 := dop_181 (dn_w dw166_5 13 rfl) rfl
theorem dX9_meet_96 : DE cX9_meet 96 (.iload 4) 2 := dop_21 (dn_w dw166_6 0 rfl)
theorem dX9_meet_98 : DE cX9_meet 98 (.ireturn) 1 := dop_172 (dn_w dw166_6 2 rfl)
noncomputable def dt167_6 : List Nat := 255 :: 199 :: 42 :: 3 :: 181 :: 0 :: 222 :: 28 :: 172 :: []
noncomputable def dt167_5 : List Nat := 13 :: 42 :: 180 :: 0 :: 222 :: 46 :: 4 :: 100 :: 61 :: 21 :: 5 :: 62 :: 132 :: 4 :: 1 :: 167 :: dt167_6
noncomputable def dt167_4 : List Nat := 244 :: 54 :: 5 :: 28 :: 155 :: 0 :: 9 :: 21 :: 5 :: 29 :: 162 :: 0 :: 18 :: 42 :: 180 :: 0 :: dt167_5
noncomputable def dt167_3 : List Nat := 42 :: 180 :: 0 :: 222 :: 46 :: 16 :: 40 :: 162 :: 0 :: 43 :: 42 :: 182 :: 0 :: 238 :: 184 :: 0 :: dt167_4
noncomputable def dt167_2 : List Nat := 61 :: 3 :: 62 :: 3 :: 54 :: 4 :: 21 :: 4 :: 27 :: 162 :: 0 :: 57 :: 42 :: 180 :: 0 :: 13 :: dt167_3
noncomputable def dt167_1 : List Nat := 3 :: 46 :: 16 :: 40 :: 160 :: 0 :: 6 :: 16 :: 253 :: 172 :: 42 :: 182 :: 0 :: 247 :: 16 :: 253 :: dt167_2
noncomputable def dt167_0 : List Nat := 27 :: 4 :: 16 :: 20 :: 184 :: 0 :: 87 :: 154 :: 0 :: 5 :: 2 :: 172 :: 42 :: 180 :: 0 :: 13 :: dt167_1
theorem dw167_0 : dn cX9_least 0 = dt167_0 := by decide +kernel
theorem dw167_1 : dn cX9_least 16 = dt167_1 := dn_w dw167_0 16 rfl
theorem dw167_2 : dn cX9_least 32 = dt167_2 := dn_w dw167_1 16 rfl
theorem dw167_3 : dn cX9_least 48 = dt167_3 := dn_w dw167_2 16 rfl
theorem dw167_4 : dn cX9_least 64 = dt167_4 := dn_w dw167_3 16 rfl
theorem dw167_5 : dn cX9_least 80 = dt167_5 := dn_w dw167_4 16 rfl
theorem dw167_6 : dn cX9_least 96 = dt167_6 := dn_w dw167_5 16 rfl
theorem dX9_least_0 : DE cX9_least 0 (.iload_n 1) 1 := dop_27 (dn_w dw167_0 0 rfl)
theorem dX9_least_1 : DE cX9_least 1 (.iconst 1) 1 := dop_4 (dn_w dw167_0 1 rfl)
theorem dX9_least_2 : DE cX9_least 2 (.bipush 20) 2 := dop_16 (dn_w dw167_0 2 rfl) rfl
theorem dX9_least_4 : DE cX9_least 4 (.invokestatic 87) 3 := dop_184 (dn_w dw167_0 4 rfl) rfl
theorem dX9_least_7 : DE cX9_least 7 (.ifCond .ne 5) 3 := dop_154 (dn_w dw167_0 7 rfl) rfl
theorem dX9_least_10 : DE cX9_least 10 (.iconst (-1)) 1 := dop_2 (dn_w dw167_0 10 rfl)
theorem dX9_least_11 : DE cX9_least 11 (.ireturn) 1 := dop_172 (dn_w dw167_0 11 rfl)
theorem dX9_least_12 : DE cX9_least 12 (.aload_n 0) 1 := dop_42 (dn_w dw167_0 12 rfl)
theorem dX9_least_13 : DE cX9_least 13 (.getfield 13) 3 := dop_180 (dn_w dw167_0 13 rfl) rfl
theorem dX9_least_16 : DE cX9_least 16 (.iconst 0) 1 := dop_3 (dn_w dw167_1 0 rfl)
theorem dX9_least_17 : DE cX9_least 17 (.iaload) 1 := dop_46 (dn_w dw167_1 1 rfl)
theorem dX9_least_18 : DE cX9_least 18 (.bipush 40) 2 := dop_16 (dn_w dw167_1 2 rfl) rfl
theorem dX9_least_20 : DE cX9_least 20 (.if_icmp .ne 6) 3 := dop_160 (dn_w dw167_1 4 rfl) rfl
theorem dX9_least_23 : DE cX9_least 23 (.bipush (-3)) 2 := dop_16 (dn_w dw167_1 7 rfl) rfl
theorem dX9_least_25 : DE cX9_least 25 (.ireturn) 1 := dop_172 (dn_w dw167_1 9 rfl)
theorem dX9_least_26 : DE cX9_least 26 (.aload_n 0) 1 := dop_42 (dn_w dw167_1 10 rfl)
theorem dX9_least_27 : DE cX9_least 27 (.invokevirtual 247) 3 := dop_182 (dn_w dw167_1 11 rfl) rfl
theorem dX9_least_30 : DE cX9_least 30 (.bipush (-3)) 2 := dop_16 (dn_w dw167_1 14 rfl) rfl
theorem dX9_least_32 : DE cX9_least 32 (.istore_n 2) 1 := dop_61 (dn_w dw167_2 0 rfl)
theorem dX9_least_33 : DE cX9_least 33 (.iconst 0) 1 := dop_3 (dn_w dw167_2 1 rfl)
theorem dX9_least_34 : DE cX9_least 34 (.istore_n 3) 1 := dop_62 (dn_w dw167_2 2 rfl)
theorem dX9_least_35 : DE cX9_least 35 (.iconst 0) 1 := dop_3 (dn_w dw167_2 3 rfl)
theorem dX9_least_36 : DE cX9_least 36 (.istore 4) 2 := dop_54 (dn_w dw167_2 4 rfl)
theorem dX9_least_38 : DE cX9_least 38 (.iload 4) 2 := dop_21 (dn_w dw167_2 6 rfl)
theorem dX9_least_40 : DE cX9_least 40 (.iload_n 1) 1 := dop_27 (dn_w dw167_2 8 rfl)
theorem dX9_least_41 : DE cX9_least 41 (.if_icmp .ge 57) 3 := dop_162 (dn_w dw167_2 9 rfl) rfl
theorem dX9_least_44 : DE cX9_least 44 (.aload_n 0) 1 := dop_42 (dn_w dw167_2 12 rfl)
theorem dX9_least_45 : DE cX9_least 45 (.getfield 13) 3 := dop_180 (dn_w dw167_2 13 rfl) rfl
theorem dX9_least_48 : DE cX9_least 48 (.aload_n 0) 1 := dop_42 (dn_w dw167_3 0 rfl)
theorem dX9_least_49 : DE cX9_least 49 (.getfield 222) 3 := dop_180 (dn_w dw167_3 1 rfl) rfl
theorem dX9_least_52 : DE cX9_least 52 (.iaload) 1 := dop_46 (dn_w dw167_3 4 rfl)
theorem dX9_least_53 : DE cX9_least 53 (.bipush 40) 2 := dop_16 (dn_w dw167_3 5 rfl) rfl
theorem dX9_least_55 : DE cX9_least 55 (.if_icmp .ge 43) 3 := dop_162 (dn_w dw167_3 7 rfl) rfl
theorem dX9_least_58 : DE cX9_least 58 (.aload_n 0) 1 := dop_42 (dn_w dw167_3 10 rfl)
theorem dX9_least_59 : DE cX9_least 59 (.invokevirtual 238) 3 := dop_182 (dn_w dw167_3 11 rfl) rfl
theorem dX9_least_62 : DE cX9_least 62 (.invokestatic 244) 3 := dop_184 (dn_w dw167_3 14 rfl) rfl
theorem dX9_least_65 : DE cX9_least 65 (.istore 5) 2 := dop_54 (dn_w dw167_4 1 rfl)
theorem dX9_least_67 : DE cX9_least 67 (.iload_n 2) 1 := dop_28 (dn_w dw167_4 3 rfl)
theorem dX9_least_68 : DE cX9_least 68 (.ifCond .lt 9) 3 := dop_155 (dn_w dw167_4 4 rfl) rfl
theorem dX9_least_71 : DE cX9_least 71 (.iload 5) 2 := dop_21 (dn_w dw167_4 7 rfl)
theorem dX9_least_73 : DE cX9_least 73 (.iload_n 3) 1 := dop_29 (dn_w dw167_4 9 rfl)
theorem dX9_least_74 : DE cX9_least 74 (.if_icmp .ge 18) 3 := dop_162 (dn_w dw167_4 10 rfl) rfl
theorem dX9_least_77 : DE cX9_least 77 (.aload_n 0) 1 := dop_42 (dn_w dw167_4 13 rfl)
theorem dX9_least_78 : DE cX9_least 78 (.getfield 13) 3 := dop_180 (dn_w dw167_4 14 rfl) rfl
theorem dX9_least_81 : DE cX9_least 81 (.aload_n 0) 1 := dop_42 (dn_w dw167_5 1 rfl)
theorem dX9_least_82 : DE cX9_least 82 (.getfield 222) 3 := dop_180 (dn_w dw167_5 2 rfl) rfl
theorem dX9_least_85 : DE cX9_least 85 (.iaload) 1 := dop_46 (dn_w dw167_5 5 rfl)
theorem dX9_least_86 : DE cX9_least 86 (.iconst 1) 1 := dop_4 (dn_w dw167_5 6 rfl)
theorem dX9_least_87 : DE cX9_least 87 (.isub) 1 := dop_100 (dn_w dw167_5 7 rfl)
theorem dX9_least_88 : DE cX9_least 88 (.istore_n 2) 1 := dop_61 (dn_w dw167_5 8 rfl)
theorem dX9_least_89 : DE cX9_least 89 (.iload 5) 2 := dop_21 (dn_w dw167_5 9 rfl)
theorem dX9_least_91 : DE cX9_least 91 (.istore_n 3) 1 := dop_62 (dn_w dw167_5 11 rfl)
theorem dX9_least_92 : DE cX9_least 92 (.iinc 4 1) 3 := dop_132 (dn_w dw167_5 12 rfl) rfl
theorem dX9_least_95 : DE cX9_least 95 (.goto (-57)) 3 := dop_167 (dn_w dw167_5 15 rfl) rfl
theorem dX9_least_98 : DE cX9_least 98 (.aload_n 0) 1 := dop_42 (dn_w dw167_6 2 rfl)
theorem dX9_least_99 : DE cX9_least 99 (.iconst 0) 1 := dop_3 (dn_w dw167_6 3 rfl)
theorem dX9_least_100 : DE cX9_least 100 (.putfield 222) 3 := dop_181 (dn_w dw167_6 4 rfl) rfl
theorem dX9_least_103 : DE cX9_least 103 (.iload_n 2) 1 := dop_28 (dn_w dw167_6 7 rfl)
theorem dX9_least_104 : DE cX9_least 104 (.ireturn) 1 := dop_172 (dn_w dw167_6 8 rfl)
noncomputable def dt168_8 : List Nat := 172 :: []
noncomputable def dt168_7 : List Nat := 167 :: 0 :: 7 :: 21 :: 4 :: 4 :: 96 :: 54 :: 4 :: 132 :: 5 :: 1 :: 167 :: 255 :: 138 :: 4 :: dt168_8
noncomputable def dt168_6 : List Nat := 3 :: 54 :: 8 :: 21 :: 8 :: 154 :: 0 :: 5 :: 3 :: 172 :: 21 :: 6 :: 153 :: 0 :: 7 :: 3 :: dt168_7
noncomputable def dt168_5 : List Nat := 0 :: 13 :: 28 :: 5 :: 159 :: 0 :: 8 :: 28 :: 8 :: 160 :: 0 :: 7 :: 4 :: 167 :: 0 :: 4 :: dt168_6
noncomputable def dt168_4 : List Nat := 21 :: 7 :: 154 :: 0 :: 7 :: 4 :: 167 :: 0 :: 27 :: 3 :: 167 :: 0 :: 23 :: 21 :: 7 :: 154 :: dt168_5
noncomputable def dt168_3 : List Nat := 21 :: 5 :: 3 :: 3 :: 21 :: 4 :: 182 :: 0 :: 225 :: 54 :: 7 :: 21 :: 6 :: 153 :: 0 :: 16 :: dt168_4
noncomputable def dt168_2 : List Nat := 4 :: 167 :: 0 :: 4 :: 3 :: 54 :: 6 :: 42 :: 28 :: 29 :: 42 :: 27 :: 6 :: 182 :: 0 :: 209 :: dt168_3
noncomputable def dt168_1 : List Nat := 113 :: 42 :: 180 :: 0 :: 19 :: 21 :: 5 :: 46 :: 27 :: 122 :: 4 :: 126 :: 4 :: 160 :: 0 :: 7 :: dt168_2
noncomputable def dt168_0 : List Nat := 3 :: 54 :: 4 :: 3 :: 54 :: 5 :: 21 :: 5 :: 42 :: 180 :: 0 :: 13 :: 3 :: 46 :: 162 :: 0 :: dt168_1
theorem dw168_0 : dn cX9_isOf 0 = dt168_0 := by decide +kernel
theorem dw168_1 : dn cX9_isOf 16 = dt168_1 := dn_w dw168_0 16 rfl
theorem dw168_2 : dn cX9_isOf 32 = dt168_2 := dn_w dw168_1 16 rfl
theorem dw168_3 : dn cX9_isOf 48 = dt168_3 := dn_w dw168_2 16 rfl
theorem dw168_4 : dn cX9_isOf 64 = dt168_4 := dn_w dw168_3 16 rfl
theorem dw168_5 : dn cX9_isOf 80 = dt168_5 := dn_w dw168_4 16 rfl
theorem dw168_6 : dn cX9_isOf 96 = dt168_6 := dn_w dw168_5 16 rfl
theorem dw168_7 : dn cX9_isOf 112 = dt168_7 := dn_w dw168_6 16 rfl
theorem dw168_8 : dn cX9_isOf 128 = dt168_8 := dn_w dw168_7 16 rfl
theorem dX9_isOf_0 : DE cX9_isOf 0 (.iconst 0) 1 := dop_3 (dn_w dw168_0 0 rfl)
theorem dX9_isOf_1 : DE cX9_isOf 1 (.istore 4) 2 := dop_54 (dn_w dw168_0 1 rfl)
theorem dX9_isOf_3 : DE cX9_isOf 3 (.iconst 0) 1 := dop_3 (dn_w dw168_0 3 rfl)
theorem dX9_isOf_4 : DE cX9_isOf 4 (.istore 5) 2 := dop_54 (dn_w dw168_0 4 rfl)
theorem dX9_isOf_6 : DE cX9_isOf 6 (.iload 5) 2 := dop_21 (dn_w dw168_0 6 rfl)
theorem dX9_isOf_8 : DE cX9_isOf 8 (.aload_n 0) 1 := dop_42 (dn_w dw168_0 8 rfl)
theorem dX9_isOf_9 : DE cX9_isOf 9 (.getfield 13) 3 := dop_180 (dn_w dw168_0 9 rfl) rfl
theorem dX9_isOf_12 : DE cX9_isOf 12 (.iconst 0) 1 := dop_3 (dn_w dw168_0 12 rfl)
theorem dX9_isOf_13 : DE cX9_isOf 13 (.iaload) 1 := dop_46 (dn_w dw168_0 13 rfl)
theorem dX9_isOf_14 : DE cX9_isOf 14 (.if_icmp .ge 113) 3 := dop_162 (dn_w dw168_0 14 rfl) rfl
theorem dX9_isOf_17 : DE cX9_isOf 17 (.aload_n 0) 1 := dop_42 (dn_w dw168_1 1 rfl)
theorem dX9_isOf_18 : DE cX9_isOf 18 (.getfield 19) 3 := dop_180 (dn_w dw168_1 2 rfl) rfl
theorem dX9_isOf_21 : DE cX9_isOf 21 (.iload 5) 2 := dop_21 (dn_w dw168_1 5 rfl)
theorem dX9_isOf_23 : DE cX9_isOf 23 (.iaload) 1 := dop_46 (dn_w dw168_1 7 rfl)
theorem dX9_isOf_24 : DE cX9_isOf 24 (.iload_n 1) 1 := dop_27 (dn_w dw168_1 8 rfl)
theorem dX9_isOf_25 : DE cX9_isOf 25 (.ishr) 1 := dop_122 (dn_w dw168_1 9 rfl)
theorem dX9_isOf_26 : DE cX9_isOf 26 (.iconst 1) 1 := dop_4 (dn_w dw168_1 10 rfl)
theorem dX9_isOf_27 : DE cX9_isOf 27 (.iand) 1 := dop_126 (dn_w dw168_1 11 rfl)
theorem dX9_isOf_28 : DE cX9_isOf 28 (.iconst 1) 1 := dop_4 (dn_w dw168_1 12 rfl)
theorem dX9_isOf_29 : DE cX9_isOf 29 (.if_icmp .ne 7) 3 := dop_160 (dn_w dw168_1 13 rfl) rfl
theorem dX9_isOf_32 : DE cX9_isOf 32 (.iconst 1) 1 := dop_4 (dn_w dw168_2 0 rfl)
theorem dX9_isOf_33 : DE cX9_isOf 33 (.goto 4) 3 := dop_167 (dn_w dw168_2 1 rfl) rfl
theorem dX9_isOf_36 : DE cX9_isOf 36 (.iconst 0) 1 := dop_3 (dn_w dw168_2 4 rfl)
theorem dX9_isOf_37 : DE cX9_isOf 37 (.istore 6) 2 := dop_54 (dn_w dw168_2 5 rfl)
theorem dX9_isOf_39 : DE cX9_isOf 39 (.aload_n 0) 1 := dop_42 (dn_w dw168_2 7 rfl)
theorem dX9_isOf_40 : DE cX9_isOf 40 (.iload_n 2) 1 := dop_28 (dn_w dw168_2 8 rfl)
theorem dX9_isOf_41 : DE cX9_isOf 41 (.iload_n 3) 1 := dop_29 (dn_w dw168_2 9 rfl)
theorem dX9_isOf_42 : DE cX9_isOf 42 (.aload_n 0) 1 := dop_42 (dn_w dw168_2 10 rfl)
theorem dX9_isOf_43 : DE cX9_isOf 43 (.iload_n 1) 1 := dop_27 (dn_w dw168_2 11 rfl)
theorem dX9_isOf_44 : DE cX9_isOf 44 (.iconst 3) 1 := dop_6 (dn_w dw168_2 12 rfl)
theorem dX9_isOf_45 : DE cX9_isOf 45 (.invokevirtual 209) 3 := dop_182 (dn_w dw168_2 13 rfl) rfl
theorem dX9_isOf_48 : DE cX9_isOf 48 (.iload 5) 2 := dop_21 (dn_w dw168_3 0 rfl)
theorem dX9_isOf_50 : DE cX9_isOf 50 (.iconst 0) 1 := dop_3 (dn_w dw168_3 2 rfl)
theorem dX9_isOf_51 : DE cX9_isOf 51 (.iconst 0) 1 := dop_3 (dn_w dw168_3 3 rfl)
theorem dX9_isOf_52 : DE cX9_isOf 52 (.iload 4) 2 := dop_21 (dn_w dw168_3 4 rfl)
theorem dX9_isOf_54 : DE cX9_isOf 54 (.invokevirtual 225) 3 := dop_182 (dn_w dw168_3 6 rfl) rfl
theorem dX9_isOf_57 : DE cX9_isOf 57 (.istore 7) 2 := dop_54 (dn_w dw168_3 9 rfl)
theorem dX9_isOf_59 : DE cX9_isOf 59 (.iload 6) 2 := dop_21 (dn_w dw168_3 11 rfl)
theorem dX9_isOf_61 : DE cX9_isOf 61 (.ifCond .eq 16) 3 := dop_153 (dn_w dw168_3 13 rfl) rfl
theorem dX9_isOf_64 : DE cX9_isOf 64 (.iload 7) 2 := dop_21 (dn_w dw168_4 0 rfl)
theorem dX9_isOf_66 : DE cX9_isOf 66 (.ifCond .ne 7) 3 := dop_154 (dn_w dw168_4 2 rfl) rfl
theorem dX9_isOf_69 : DE cX9_isOf 69 (.iconst 1) 1 := dop_4 (dn_w dw168_4 5 rfl)
theorem dX9_isOf_70 : DE cX9_isOf 70 (.goto 27) 3 := dop_167 (dn_w dw168_4 6 rfl) rfl
theorem dX9_isOf_73 : DE cX9_isOf 73 (.iconst 0) 1 := dop_3 (dn_w dw168_4 9 rfl)
theorem dX9_isOf_74 : DE cX9_isOf 74 (.goto 23) 3 := dop_167 (dn_w dw168_4 10 rfl) rfl
theorem dX9_isOf_77 : DE cX9_isOf 77 (.iload 7) 2 := dop_21 (dn_w dw168_4 13 rfl)
theorem dX9_isOf_79 : DE cX9_isOf 79 (.ifCond .ne 13) 3 := dop_154 (dn_w dw168_4 15 rfl) rfl
theorem dX9_isOf_82 : DE cX9_isOf 82 (.iload_n 2) 1 := dop_28 (dn_w dw168_5 2 rfl)
theorem dX9_isOf_83 : DE cX9_isOf 83 (.iconst 2) 1 := dop_5 (dn_w dw168_5 3 rfl)
theorem dX9_isOf_84 : DE cX9_isOf 84 (.if_icmp .eq 8) 3 := dop_159 (dn_w dw168_5 4 rfl) rfl
theorem dX9_isOf_87 : DE cX9_isOf 87 (.iload_n 2) 1 := dop_28 (dn_w dw168_5 7 rfl)
theorem dX9_isOf_88 : DE cX9_isOf 88 (.iconst 5) 1 := dop_8 (dn_w dw168_5 8 rfl)
theorem dX9_isOf_89 : DE cX9_isOf 89 (.if_icmp .ne 7) 3 := dop_160 (dn_w dw168_5 9 rfl) rfl
theorem dX9_isOf_92 : DE cX9_isOf 92 (.iconst 1) 1 := dop_4 (dn_w dw168_5 12 rfl)
theorem dX9_isOf_93 : DE cX9_isOf 93 (.goto 4) 3 := dop_167 (dn_w dw168_5 13 rfl) rfl
theorem dX9_isOf_96 : DE cX9_isOf 96 (.iconst 0) 1 := dop_3 (dn_w dw168_6 0 rfl)
theorem dX9_isOf_97 : DE cX9_isOf 97 (.istore 8) 2 := dop_54 (dn_w dw168_6 1 rfl)
theorem dX9_isOf_99 : DE cX9_isOf 99 (.iload 8) 2 := dop_21 (dn_w dw168_6 3 rfl)
theorem dX9_isOf_101 : DE cX9_isOf 101 (.ifCond .ne 5) 3 := dop_154 (dn_w dw168_6 5 rfl) rfl
theorem dX9_isOf_104 : DE cX9_isOf 104 (.iconst 0) 1 := dop_3 (dn_w dw168_6 8 rfl)
theorem dX9_isOf_105 : DE cX9_isOf 105 (.ireturn) 1 := dop_172 (dn_w dw168_6 9 rfl)
theorem dX9_isOf_106 : DE cX9_isOf 106 (.iload 6) 2 := dop_21 (dn_w dw168_6 10 rfl)
theorem dX9_isOf_108 : DE cX9_isOf 108 (.ifCond .eq 7) 3 := dop_153 (dn_w dw168_6 12 rfl) rfl
theorem dX9_isOf_111 : DE cX9_isOf 111 (.iconst 0) 1 := dop_3 (dn_w dw168_6 15 rfl)
theorem dX9_isOf_112 : DE cX9_isOf 112 (.goto 7) 3 := dop_167 (dn_w dw168_7 0 rfl) rfl
theorem dX9_isOf_115 : DE cX9_isOf 115 (.iload 4) 2 := dop_21 (dn_w dw168_7 3 rfl)
theorem dX9_isOf_117 : DE cX9_isOf 117 (.iconst 1) 1 := dop_4 (dn_w dw168_7 5 rfl)
theorem dX9_isOf_118 : DE cX9_isOf 118 (.iadd) 1 := dop_96 (dn_w dw168_7 6 rfl)
theorem dX9_isOf_119 : DE cX9_isOf 119 (.istore 4) 2 := dop_54 (dn_w dw168_7 7 rfl)
theorem dX9_isOf_121 : DE cX9_isOf 121 (.iinc 5 1) 3 := dop_132 (dn_w dw168_7 9 rfl) rfl
theorem dX9_isOf_124 : DE cX9_isOf 124 (.goto (-118)) 3 := dop_167 (dn_w dw168_7 12 rfl) rfl
theorem dX9_isOf_127 : DE cX9_isOf 127 (.iconst 1) 1 := dop_4 (dn_w dw168_7 15 rfl)
theorem dX9_isOf_128 : DE cX9_isOf 128 (.ireturn) 1 := dop_172 (dn_w dw168_8 0 rfl)
noncomputable def dt169_4 : List Nat := 172 :: []
noncomputable def dt169_3 : List Nat := 3 :: 128 :: 61 :: 132 :: 4 :: 1 :: 167 :: 255 :: 225 :: 132 :: 3 :: 1 :: 167 :: 255 :: 210 :: 28 :: dt169_4
noncomputable def dt169_2 : List Nat := 27 :: 29 :: 21 :: 4 :: 182 :: 0 :: 253 :: 153 :: 0 :: 9 :: 4 :: 29 :: 120 :: 167 :: 0 :: 4 :: dt169_3
noncomputable def dt169_1 : List Nat := 6 :: 162 :: 0 :: 46 :: 3 :: 54 :: 4 :: 21 :: 4 :: 16 :: 10 :: 162 :: 0 :: 30 :: 28 :: 42 :: dt169_2
noncomputable def dt169_0 : List Nat := 42 :: 27 :: 182 :: 0 :: 206 :: 154 :: 0 :: 5 :: 2 :: 172 :: 3 :: 61 :: 3 :: 62 :: 29 :: 16 :: dt169_1
theorem dw169_0 : dn cX9_fits 0 = dt169_0 := by decide +kernel
theorem dw169_1 : dn cX9_fits 16 = dt169_1 := dn_w dw169_0 16 rfl
theorem dw169_2 : dn cX9_fits 32 = dt169_2 := dn_w dw169_1 16 rfl
theorem dw169_3 : dn cX9_fits 48 = dt169_3 := dn_w dw169_2 16 rfl
theorem dw169_4 : dn cX9_fits 64 = dt169_4 := dn_w dw169_3 16 rfl
theorem dX9_fits_0 : DE cX9_fits 0 (.aload_n 0) 1 := dop_42 (dn_w dw169_0 0 rfl)
theorem dX9_fits_1 : DE cX9_fits 1 (.iload_n 1) 1 := dop_27 (dn_w dw169_0 1 rfl)
theorem dX9_fits_2 : DE cX9_fits 2 (.invokevirtual 206) 3 := dop_182 (dn_w dw169_0 2 rfl) rfl
theorem dX9_fits_5 : DE cX9_fits 5 (.ifCond .ne 5) 3 := dop_154 (dn_w dw169_0 5 rfl) rfl
theorem dX9_fits_8 : DE cX9_fits 8 (.iconst (-1)) 1 := dop_2 (dn_w dw169_0 8 rfl)
theorem dX9_fits_9 : DE cX9_fits 9 (.ireturn) 1 := dop_172 (dn_w dw169_0 9 rfl)
theorem dX9_fits_10 : DE cX9_fits 10 (.iconst 0) 1 := dop_3 (dn_w dw169_0 10 rfl)
theorem dX9_fits_11 : DE cX9_fits 11 (.istore_n 2) 1 := dop_61 (dn_w dw169_0 11 rfl)
theorem dX9_fits_12 : DE cX9_fits 12 (.iconst 0) 1 := dop_3 (dn_w dw169_0 12 rfl)
theorem dX9_fits_13 : DE cX9_fits 13 (.istore_n 3) 1 := dop_62 (dn_w dw169_0 13 rfl)
theorem dX9_fits_14 : DE cX9_fits 14 (.iload_n 3) 1 := dop_29 (dn_w dw169_0 14 rfl)
theorem dX9_fits_15 : DE cX9_fits 15 (.bipush 6) 2 := dop_16 (dn_w dw169_0 15 rfl) rfl
theorem dX9_fits_17 : DE cX9_fits 17 (.if_icmp .ge 46) 3 := dop_162 (dn_w dw169_1 1 rfl) rfl
theorem dX9_fits_20 : DE cX9_fits 20 (.iconst 0) 1 := dop_3 (dn_w dw169_1 4 rfl)
theorem dX9_fits_21 : DE cX9_fits 21 (.istore 4) 2 := dop_54 (dn_w dw169_1 5 rfl)
theorem dX9_fits_23 : DE cX9_fits 23 (.iload 4) 2 := dop_21 (dn_w dw169_1 7 rfl)
theorem dX9_fits_25 : DE cX9_fits 25 (.bipush 10) 2 := dop_16 (dn_w dw169_1 9 rfl) rfl
theorem dX9_fits_27 : DE cX9_fits 27 (.if_icmp .ge 30) 3 := dop_162 (dn_w dw169_1 11 rfl) rfl
theorem dX9_fits_30 : DE cX9_fits 30 (.iload_n 2) 1 := dop_28 (dn_w dw169_1 14 rfl)
theorem dX9_fits_31 : DE cX9_fits 31 (.aload_n 0) 1 := dop_42 (dn_w dw169_1 15 rfl)
theorem dX9_fits_32 : DE cX9_fits 32 (.iload_n 1) 1 := dop_27 (dn_w dw169_2 0 rfl)
theorem dX9_fits_33 : DE cX9_fits 33 (.iload_n 3) 1 := dop_29 (dn_w dw169_2 1 rfl)
theorem dX9_fits_34 : DE cX9_fits 34 (.iload 4) 2 := dop_21 (dn_w dw169_2 2 rfl)
theorem dX9_fits_36 : DE cX9_fits 36 (.invokevirtual 253) 3 := dop_182 (dn_w dw169_2 4 rfl) rfl
theorem dX9_fits_39 : DE cX9_fits 39 (.ifCond .eq 9) 3 := dop_153 (dn_w dw169_2 7 rfl) rfl
theorem dX9_fits_42 : DE cX9_fits 42 (.iconst 1) 1 := dop_4 (dn_w dw169_2 10 rfl)
theorem dX9_fits_43 : DE cX9_fits 43 (.iload_n 3) 1 := dop_29 (dn_w dw169_2 11 rfl)
theorem dX9_fits_44 : DE cX9_fits 44 (.ishl) 1 := dop_120 (dn_w dw169_2 12 rfl)
theorem dX9_fits_45 : DE cX9_fits 45 (.goto 4) 3 := dop_167 (dn_w dw169_2 13 rfl) rfl
theorem dX9_fits_48 : DE cX9_fits 48 (.iconst 0) 1 := dop_3 (dn_w dw169_3 0 rfl)
theorem dX9_fits_49 : DE cX9_fits 49 (.ior) 1 := dop_128 (dn_w dw169_3 1 rfl)
theorem dX9_fits_50 : DE cX9_fits 50 (.istore_n 2) 1 := dop_61 (dn_w dw169_3 2 rfl)
theorem dX9_fits_51 : DE cX9_fits 51 (.iinc 4 1) 3 := dop_132 (dn_w dw169_3 3 rfl) rfl
theorem dX9_fits_54 : DE cX9_fits 54 (.goto (-31)) 3 := dop_167 (dn_w dw169_3 6 rfl) rfl
theorem dX9_fits_57 : DE cX9_fits 57 (.iinc 3 1) 3 := dop_132 (dn_w dw169_3 9 rfl) rfl
theorem dX9_fits_60 : DE cX9_fits 60 (.goto (-46)) 3 := dop_167 (dn_w dw169_3 12 rfl) rfl
theorem dX9_fits_63 : DE cX9_fits 63 (.iload_n 2) 1 := dop_28 (dn_w dw169_3 15 rfl)
theorem dX9_fits_64 : DE cX9_fits 64 (.ireturn) 1 := dop_172 (dn_w dw169_4 0 rfl)
noncomputable def dt170_0 : List Nat := 42 :: 180 :: 0 :: 34 :: 61 :: 42 :: 27 :: 181 :: 0 :: 34 :: 28 :: 172 :: []
theorem dw170_0 : dn cX9_seed 0 = dt170_0 := by decide +kernel
theorem dX9_seed_0 : DE cX9_seed 0 (.aload_n 0) 1 := dop_42 (dn_w dw170_0 0 rfl)
theorem dX9_seed_1 : DE cX9_seed 1 (.getfield 34) 3 := dop_180 (dn_w dw170_0 1 rfl) rfl
theorem dX9_seed_4 : DE cX9_seed 4 (.istore_n 2) 1 := dop_61 (dn_w dw170_0 4 rfl)
theorem dX9_seed_5 : DE cX9_seed 5 (.aload_n 0) 1 := dop_42 (dn_w dw170_0 5 rfl)
theorem dX9_seed_6 : DE cX9_seed 6 (.iload_n 1) 1 := dop_27 (dn_w dw170_0 6 rfl)
theorem dX9_seed_7 : DE cX9_seed 7 (.putfield 34) 3 := dop_181 (dn_w dw170_0 7 rfl) rfl
theorem dX9_seed_10 : DE cX9_seed 10 (.iload_n 2) 1 := dop_28 (dn_w dw170_0 10 rfl)
theorem dX9_seed_11 : DE cX9_seed 11 (.ireturn) 1 := dop_172 (dn_w dw170_0 11 rfl)
noncomputable def dt171_7 : List Nat := 255 :: 233 :: 29 :: 172 :: []
noncomputable def dt171_6 : List Nat := 28 :: 158 :: 0 :: 17 :: 28 :: 27 :: 29 :: 122 :: 4 :: 126 :: 100 :: 61 :: 132 :: 3 :: 1 :: 167 :: dt171_7
noncomputable def dt171_5 : List Nat := 27 :: 184 :: 0 :: 244 :: 112 :: 61 :: 3 :: 62 :: 27 :: 29 :: 122 :: 4 :: 126 :: 153 :: 0 :: 7 :: dt171_6
noncomputable def dt171_4 : List Nat := 0 :: 104 :: 17 :: 48 :: 57 :: 96 :: 181 :: 0 :: 34 :: 42 :: 180 :: 0 :: 34 :: 16 :: 16 :: 124 :: dt171_5
noncomputable def dt171_3 : List Nat := 255 :: 227 :: 27 :: 154 :: 0 :: 6 :: 16 :: 253 :: 172 :: 42 :: 42 :: 180 :: 0 :: 34 :: 19 :: 1 :: dt171_4
noncomputable def dt171_2 : List Nat := 153 :: 0 :: 7 :: 3 :: 167 :: 0 :: 6 :: 4 :: 28 :: 120 :: 128 :: 60 :: 132 :: 2 :: 1 :: 167 :: dt171_3
noncomputable def dt171_1 : List Nat := 3 :: 61 :: 28 :: 42 :: 180 :: 0 :: 91 :: 162 :: 0 :: 27 :: 27 :: 42 :: 28 :: 182 :: 0 :: 229 :: dt171_2
noncomputable def dt171_0 : List Nat := 42 :: 180 :: 0 :: 13 :: 3 :: 46 :: 16 :: 40 :: 160 :: 0 :: 6 :: 16 :: 252 :: 172 :: 3 :: 60 :: dt171_1
theorem dw171_0 : dn cX9_draw 0 = dt171_0 := by decide +kernel
theorem dw171_1 : dn cX9_draw 16 = dt171_1 := dn_w dw171_0 16 rfl
theorem dw171_2 : dn cX9_draw 32 = dt171_2 := dn_w dw171_1 16 rfl
theorem dw171_3 : dn cX9_draw 48 = dt171_3 := dn_w dw171_2 16 rfl
theorem dw171_4 : dn cX9_draw 64 = dt171_4 := dn_w dw171_3 16 rfl
theorem dw171_5 : dn cX9_draw 80 = dt171_5 := dn_w dw171_4 16 rfl
theorem dw171_6 : dn cX9_draw 96 = dt171_6 := dn_w dw171_5 16 rfl
theorem dw171_7 : dn cX9_draw 112 = dt171_7 := dn_w dw171_6 16 rfl
theorem dX9_draw_0 : DE cX9_draw 0 (.aload_n 0) 1 := dop_42 (dn_w dw171_0 0 rfl)
theorem dX9_draw_1 : DE cX9_draw 1 (.getfield 13) 3 := dop_180 (dn_w dw171_0 1 rfl) rfl
theorem dX9_draw_4 : DE cX9_draw 4 (.iconst 0) 1 := dop_3 (dn_w dw171_0 4 rfl)
theorem dX9_draw_5 : DE cX9_draw 5 (.iaload) 1 := dop_46 (dn_w dw171_0 5 rfl)
theorem dX9_draw_6 : DE cX9_draw 6 (.bipush 40) 2 := dop_16 (dn_w dw171_0 6 rfl) rfl
theorem dX9_draw_8 : DE cX9_draw 8 (.if_icmp .ne 6) 3 := dop_160 (dn_w dw171_0 8 rfl) rfl
theorem dX9_draw_11 : DE cX9_draw 11 (.bipush (-4)) 2 := dop_16 (dn_w dw171_0 11 rfl) rfl
theorem dX9_draw_13 : DE cX9_draw 13 (.ireturn) 1 := dop_172 (dn_w dw171_0 13 rfl)
theorem dX9_draw_14 : DE cX9_draw 14 (.iconst 0) 1 := dop_3 (dn_w dw171_0 14 rfl)
theorem dX9_draw_15 : DE cX9_draw 15 (.istore_n 1) 1 := dop_60 (dn_w dw171_0 15 rfl)
theorem dX9_draw_16 : DE cX9_draw 16 (.iconst 0) 1 := dop_3 (dn_w dw171_1 0 rfl)
theorem dX9_draw_17 : DE cX9_draw 17 (.istore_n 2) 1 := dop_61 (dn_w dw171_1 1 rfl)
theorem dX9_draw_18 : DE cX9_draw 18 (.iload_n 2) 1 := dop_28 (dn_w dw171_1 2 rfl)
theorem dX9_draw_19 : DE cX9_draw 19 (.aload_n 0) 1 := dop_42 (dn_w dw171_1 3 rfl)
theorem dX9_draw_20 : DE cX9_draw 20 (.getfield 91) 3 := dop_180 (dn_w dw171_1 4 rfl) rfl
theorem dX9_draw_23 : DE cX9_draw 23 (.if_icmp .ge 27) 3 := dop_162 (dn_w dw171_1 7 rfl) rfl
theorem dX9_draw_26 : DE cX9_draw 26 (.iload_n 1) 1 := dop_27 (dn_w dw171_1 10 rfl)
theorem dX9_draw_27 : DE cX9_draw 27 (.aload_n 0) 1 := dop_42 (dn_w dw171_1 11 rfl)
theorem dX9_draw_28 : DE cX9_draw 28 (.iload_n 2) 1 := dop_28 (dn_w dw171_1 12 rfl)
theorem dX9_draw_29 : DE cX9_draw 29 (.invokevirtual 229) 3 := dop_182 (dn_w dw171_1 13 rfl) rfl
theorem dX9_draw_32 : DE cX9_draw 32 (.ifCond .eq 7) 3 := dop_153 (dn_w dw171_2 0 rfl) rfl
theorem dX9_draw_35 : DE cX9_draw 35 (.iconst 0) 1 := dop_3 (dn_w dw171_2 3 rfl)
theorem dX9_draw_36 : DE cX9_draw 36 (.goto 6) 3 := dop_167 (dn_w dw171_2 4 rfl) rfl
theorem dX9_draw_39 : DE cX9_draw 39 (.iconst 1) 1 := dop_4 (dn_w dw171_2 7 rfl)
theorem dX9_draw_40 : DE cX9_draw 40 (.iload_n 2) 1 := dop_28 (dn_w dw171_2 8 rfl)
theorem dX9_draw_41 : DE cX9_draw 41 (.ishl) 1 := dop_120 (dn_w dw171_2 9 rfl)
theorem dX9_draw_42 : DE cX9_draw 42 (.ior) 1 := dop_128 (dn_w dw171_2 10 rfl)
theorem dX9_draw_43 : DE cX9_draw 43 (.istore_n 1) 1 := dop_60 (dn_w dw171_2 11 rfl)
theorem dX9_draw_44 : DE cX9_draw 44 (.iinc 2 1) 3 := dop_132 (dn_w dw171_2 12 rfl) rfl
theorem dX9_draw_47 : DE cX9_draw 47 (.goto (-29)) 3 := dop_167 (dn_w dw171_2 15 rfl) rfl
theorem dX9_draw_50 : DE cX9_draw 50 (.iload_n 1) 1 := dop_27 (dn_w dw171_3 2 rfl)
theorem dX9_draw_51 : DE cX9_draw 51 (.ifCond .ne 6) 3 := dop_154 (dn_w dw171_3 3 rfl) rfl
theorem dX9_draw_54 : DE cX9_draw 54 (.bipush (-3)) 2 := dop_16 (dn_w dw171_3 6 rfl) rfl
theorem dX9_draw_56 : DE cX9_draw 56 (.ireturn) 1 := dop_172 (dn_w dw171_3 8 rfl)
theorem dX9_draw_57 : DE cX9_draw 57 (.aload_n 0) 1 := dop_42 (dn_w dw171_3 9 rfl)
theorem dX9_draw_58 : DE cX9_draw 58 (.aload_n 0) 1 := dop_42 (dn_w dw171_3 10 rfl)
theorem dX9_draw_59 : DE cX9_draw 59 (.getfield 34) 3 := dop_180 (dn_w dw171_3 11 rfl) rfl
theorem dX9_draw_62 : DE cX9_draw 62 (.ldc_w 256) 3 := dop_19 (dn_w dw171_3 14 rfl) rfl
theorem dX9_draw_65 : DE cX9_draw 65 (.imul) 1 := dop_104 (dn_w dw171_4 1 rfl)
theorem dX9_draw_66 : DE cX9_draw 66 (.sipush 12345) 3 := dop_17 (dn_w dw171_4 2 rfl) rfl
theorem dX9_draw_69 : DE cX9_draw 69 (.iadd) 1 := dop_96 (dn_w dw171_4 5 rfl)
theorem dX9_draw_70 : DE cX9_draw 70 (.putfield 34) 3 := dop_181 (dn_w dw171_4 6 rfl) rfl
theorem dX9_draw_73 : DE cX9_draw 73 (.aload_n 0) 1 := dop_42 (dn_w dw171_4 9 rfl)
theorem dX9_draw_74 : DE cX9_draw 74 (.getfield 34) 3 := dop_180 (dn_w dw171_4 10 rfl) rfl
theorem dX9_draw_77 : DE cX9_draw 77 (.bipush 16) 2 := dop_16 (dn_w dw171_4 13 rfl) rfl
theorem dX9_draw_79 : DE cX9_draw 79 (.iushr) 1 := dop_124 (dn_w dw171_4 15 rfl)
theorem dX9_draw_80 : DE cX9_draw 80 (.iload_n 1) 1 := dop_27 (dn_w dw171_5 0 rfl)
theorem dX9_draw_81 : DE cX9_draw 81 (.invokestatic 244) 3 := dop_184 (dn_w dw171_5 1 rfl) rfl
theorem dX9_draw_84 : DE cX9_draw 84 (.irem) 1 := dop_112 (dn_w dw171_5 4 rfl)
theorem dX9_draw_85 : DE cX9_draw 85 (.istore_n 2) 1 := dop_61 (dn_w dw171_5 5 rfl)
theorem dX9_draw_86 : DE cX9_draw 86 (.iconst 0) 1 := dop_3 (dn_w dw171_5 6 rfl)
theorem dX9_draw_87 : DE cX9_draw 87 (.istore_n 3) 1 := dop_62 (dn_w dw171_5 7 rfl)
theorem dX9_draw_88 : DE cX9_draw 88 (.iload_n 1) 1 := dop_27 (dn_w dw171_5 8 rfl)
theorem dX9_draw_89 : DE cX9_draw 89 (.iload_n 3) 1 := dop_29 (dn_w dw171_5 9 rfl)
theorem dX9_draw_90 : DE cX9_draw 90 (.ishr) 1 := dop_122 (dn_w dw171_5 10 rfl)
theorem dX9_draw_91 : DE cX9_draw 91 (.iconst 1) 1 := dop_4 (dn_w dw171_5 11 rfl)
theorem dX9_draw_92 : DE cX9_draw 92 (.iand) 1 := dop_126 (dn_w dw171_5 12 rfl)
theorem dX9_draw_93 : DE cX9_draw 93 (.ifCond .eq 7) 3 := dop_153 (dn_w dw171_5 13 rfl) rfl
theorem dX9_draw_96 : DE cX9_draw 96 (.iload_n 2) 1 := dop_28 (dn_w dw171_6 0 rfl)
theorem dX9_draw_97 : DE cX9_draw 97 (.ifCond .le 17) 3 := dop_158 (dn_w dw171_6 1 rfl) rfl
theorem dX9_draw_100 : DE cX9_draw 100 (.iload_n 2) 1 := dop_28 (dn_w dw171_6 4 rfl)
theorem dX9_draw_101 : DE cX9_draw 101 (.iload_n 1) 1 := dop_27 (dn_w dw171_6 5 rfl)
theorem dX9_draw_102 : DE cX9_draw 102 (.iload_n 3) 1 := dop_29 (dn_w dw171_6 6 rfl)
theorem dX9_draw_103 : DE cX9_draw 103 (.ishr) 1 := dop_122 (dn_w dw171_6 7 rfl)
theorem dX9_draw_104 : DE cX9_draw 104 (.iconst 1) 1 := dop_4 (dn_w dw171_6 8 rfl)
theorem dX9_draw_105 : DE cX9_draw 105 (.iand) 1 := dop_126 (dn_w dw171_6 9 rfl)
theorem dX9_draw_106 : DE cX9_draw 106 (.isub) 1 := dop_100 (dn_w dw171_6 10 rfl)
theorem dX9_draw_107 : DE cX9_draw 107 (.istore_n 2) 1 := dop_61 (dn_w dw171_6 11 rfl)
theorem dX9_draw_108 : DE cX9_draw 108 (.iinc 3 1) 3 := dop_132 (dn_w dw171_6 12 rfl) rfl
theorem dX9_draw_111 : DE cX9_draw 111 (.goto (-23)) 3 := dop_167 (dn_w dw171_6 15 rfl) rfl
theorem dX9_draw_114 : DE cX9_draw 114 (.iload_n 3) 1 := dop_29 (dn_w dw171_7 2 rfl)
theorem dX9_draw_115 : DE cX9_draw 115 (.ireturn) 1 := dop_172 (dn_w dw171_7 3 rfl)
noncomputable def dt172_6 : List Nat := 255 :: 170 :: 42 :: 3 :: 181 :: 0 :: 222 :: 177 :: []
noncomputable def dt172_5 : List Nat := 42 :: 182 :: 0 :: 232 :: 79 :: 42 :: 89 :: 180 :: 1 :: 1 :: 4 :: 96 :: 181 :: 1 :: 1 :: 167 :: dt172_6
noncomputable def dt172_4 : List Nat := 182 :: 0 :: 238 :: 79 :: 42 :: 180 :: 0 :: 56 :: 6 :: 42 :: 180 :: 1 :: 1 :: 104 :: 5 :: 96 :: dt172_5
noncomputable def dt172_3 : List Nat := 222 :: 46 :: 79 :: 42 :: 180 :: 0 :: 56 :: 6 :: 42 :: 180 :: 1 :: 1 :: 104 :: 4 :: 96 :: 42 :: dt172_4
noncomputable def dt172_2 : List Nat := 180 :: 0 :: 56 :: 6 :: 42 :: 180 :: 1 :: 1 :: 104 :: 42 :: 180 :: 0 :: 13 :: 42 :: 180 :: 0 :: dt172_3
noncomputable def dt172_1 : List Nat := 84 :: 42 :: 180 :: 0 :: 13 :: 42 :: 180 :: 0 :: 222 :: 46 :: 16 :: 40 :: 162 :: 0 :: 70 :: 42 :: dt172_2
noncomputable def dt172_0 : List Nat := 42 :: 182 :: 0 :: 247 :: 42 :: 3 :: 181 :: 1 :: 1 :: 42 :: 180 :: 1 :: 1 :: 27 :: 162 :: 0 :: dt172_1
theorem dw172_0 : dn cX9_findRows 0 = dt172_0 := by decide +kernel
theorem dw172_1 : dn cX9_findRows 16 = dt172_1 := dn_w dw172_0 16 rfl
theorem dw172_2 : dn cX9_findRows 32 = dt172_2 := dn_w dw172_1 16 rfl
theorem dw172_3 : dn cX9_findRows 48 = dt172_3 := dn_w dw172_2 16 rfl
theorem dw172_4 : dn cX9_findRows 64 = dt172_4 := dn_w dw172_3 16 rfl
theorem dw172_5 : dn cX9_findRows 80 = dt172_5 := dn_w dw172_4 16 rfl
theorem dw172_6 : dn cX9_findRows 96 = dt172_6 := dn_w dw172_5 16 rfl
theorem dX9_findRows_0 : DE cX9_findRows 0 (.aload_n 0) 1 := dop_42 (dn_w dw172_0 0 rfl)
theorem dX9_findRows_1 : DE cX9_findRows 1 (.invokevirtual 247) 3 := dop_182 (dn_w dw172_0 1 rfl) rfl
theorem dX9_findRows_4 : DE cX9_findRows 4 (.aload_n 0) 1 := dop_42 (dn_w dw172_0 4 rfl)
theorem dX9_findRows_5 : DE cX9_findRows 5 (.iconst 0) 1 := dop_3 (dn_w dw172_0 5 rfl)
theorem dX9_findRows_6 : DE cX9_findRows 6 (.putfield 257) 3 := dop_181 (dn_w dw172_0 6 rfl) rfl
theorem dX9_findRows_9 : DE cX9_findRows 9 (.aload_n 0) 1 := dop_42 (dn_w dw172_0 9 rfl)
theorem dX9_findRows_10 : DE cX9_findRows 10 (.getfield 257) 3 := dop_180 (dn_w dw172_0 10 rfl) rfl
theorem dX9_findRows_13 : DE cX9_findRows 13 (.iload_n 1) 1 := dop_27 (dn_w dw172_0 13 rfl)
theorem dX9_findRows_14 : DE cX9_findRows 14 (.if_icmp .ge 84) 3 := dop_162 (dn_w dw172_0 14 rfl) rfl
theorem dX9_findRows_17 : DE cX9_findRows 17 (.aload_n 0) 1 := dop_42 (dn_w dw172_1 1 rfl)
theorem dX9_findRows_18 : DE cX9_findRows 18 (.getfield 13) 3 := dop_180 (dn_w dw172_1 2 rfl) rfl
theorem dX9_findRows_21 : DE cX9_findRows 21 (.aload_n 0) 1 := dop_42 (dn_w dw172_1 5 rfl)
theorem dX9_findRows_22 : DE cX9_findRows 22 (.getfield 222) 3 := dop_180 (dn_w dw172_1 6 rfl) rfl
theorem dX9_findRows_25 : DE cX9_findRows 25 (.iaload) 1 := dop_46 (dn_w dw172_1 9 rfl)
theorem dX9_findRows_26 : DE cX9_findRows 26 (.bipush 40) 2 := dop_16 (dn_w dw172_1 10 rfl) rfl
theorem dX9_findRows_28 : DE cX9_findRows 28 (.if_icmp .ge 70) 3 := dop_162 (dn_w dw172_1 12 rfl) rfl
theorem dX9_findRows_31 : DE cX9_findRows 31 (.aload_n 0) 1 := dop_42 (dn_w dw172_1 15 rfl)
theorem dX9_findRows_32 : DE cX9_findRows 32 (.getfield 56) 3 := dop_180 (dn_w dw172_2 0 rfl) rfl
theorem dX9_findRows_35 : DE cX9_findRows 35 (.iconst 3) 1 := dop_6 (dn_w dw172_2 3 rfl)
theorem dX9_findRows_36 : DE cX9_findRows 36 (.aload_n 0) 1 := dop_42 (dn_w dw172_2 4 rfl)
theorem dX9_findRows_37 : DE cX9_findRows 37 (.getfield 257) 3 := dop_180 (dn_w dw172_2 5 rfl) rfl
theorem dX9_findRows_40 : DE cX9_findRows 40 (.imul) 1 := dop_104 (dn_w dw172_2 8 rfl)
theorem dX9_findRows_41 : DE cX9_findRows 41 (.aload_n 0) 1 := dop_42 (dn_w dw172_2 9 rfl)
theorem dX9_findRows_42 : DE cX9_findRows 42 (.getfield 13) 3 := dop_180 (dn_w dw172_2 10 rfl) rfl
theorem dX9_findRows_45 : DE cX9_findRows 45 (.aload_n 0) 1 := dop_42 (dn_w dw172_2 13 rfl)
theorem dX9_findRows_46 : DE cX9_findRows 46 (.getfield 222) 3 := dop_180 (dn_w dw172_2 14 rfl) rfl
theorem dX9_findRows_49 : DE cX9_findRows 49 (.iaload) 1 := dop_46 (dn_w dw172_3 1 rfl)
theorem dX9_findRows_50 : DE cX9_findRows 50 (.iastore) 1 := dop_79 (dn_w dw172_3 2 rfl)
theorem dX9_findRows_51 : DE cX9_findRows 51 (.aload_n 0) 1 := dop_42 (dn_w dw172_3 3 rfl)
theorem dX9_findRows_52 : DE cX9_findRows 52 (.getfield 56) 3 := dop_180 (dn_w dw172_3 4 rfl) rfl
theorem dX9_findRows_55 : DE cX9_findRows 55 (.iconst 3) 1 := dop_6 (dn_w dw172_3 7 rfl)
theorem dX9_findRows_56 : DE cX9_findRows 56 (.aload_n 0) 1 := dop_42 (dn_w dw172_3 8 rfl)
theorem dX9_findRows_57 : DE cX9_findRows 57 (.getfield 257) 3 := dop_180 (dn_w dw172_3 9 rfl) rfl
theorem dX9_findRows_60 : DE cX9_findRows 60 (.imul) 1 := dop_104 (dn_w dw172_3 12 rfl)
theorem dX9_findRows_61 : DE cX9_findRows 61 (.iconst 1) 1 := dop_4 (dn_w dw172_3 13 rfl)
theorem dX9_findRows_62 : DE cX9_findRows 62 (.iadd) 1 := dop_96 (dn_w dw172_3 14 rfl)
theorem dX9_findRows_63 : DE cX9_findRows 63 (.aload_n 0) 1 := dop_42 (dn_w dw172_3 15 rfl)
theorem dX9_findRows_64 : DE cX9_findRows 64 (.invokevirtual 238) 3 := dop_182 (dn_w dw172_4 0 rfl) rfl
theorem dX9_findRows_67 : DE cX9_findRows 67 (.iastore) 1 := dop_79 (dn_w dw172_4 3 rfl)
theorem dX9_findRows_68 : DE cX9_findRows 68 (.aload_n 0) 1 := dop_42 (dn_w dw172_4 4 rfl)
theorem dX9_findRows_69 : DE cX9_findRows 69 (.getfield 56) 3 := dop_180 (dn_w dw172_4 5 rfl) rfl
theorem dX9_findRows_72 : DE cX9_findRows 72 (.iconst 3) 1 := dop_6 (dn_w dw172_4 8 rfl)
theorem dX9_findRows_73 : DE cX9_findRows 73 (.aload_n 0) 1 := dop_42 (dn_w dw172_4 9 rfl)
theorem dX9_findRows_74 : DE cX9_findRows 74 (.getfield 257) 3 := dop_180 (dn_w dw172_4 10 rfl) rfl
theorem dX9_findRows_77 : DE cX9_findRows 77 (.imul) 1 := dop_104 (dn_w dw172_4 13 rfl)
theorem dX9_findRows_78 : DE cX9_findRows 78 (.iconst 2) 1 := dop_5 (dn_w dw172_4 14 rfl)
theorem dX9_findRows_79 : DE cX9_findRows 79 (.iadd) 1 := dop_96 (dn_w dw172_4 15 rfl)
theorem dX9_findRows_80 : DE cX9_findRows 80 (.aload_n 0) 1 := dop_42 (dn_w dw172_5 0 rfl)
theorem dX9_findRows_81 : DE cX9_findRows 81 (.invokevirtual 232) 3 := dop_182 (dn_w dw172_5 1 rfl) rfl
theorem dX9_findRows_84 : DE cX9_findRows 84 (.iastore) 1 := dop_79 (dn_w dw172_5 4 rfl)
theorem dX9_findRows_85 : DE cX9_findRows 85 (.aload_n 0) 1 := dop_42 (dn_w dw172_5 5 rfl)
theorem dX9_findRows_86 : DE cX9_findRows 86 (.dup) 1 := dop_89 (dn_w dw172_5 6 rfl)
theorem dX9_findRows_87 : DE cX9_findRows 87 (.getfield 257) 3 := dop_180 (dn_w dw172_5 7 rfl) rfl
theorem dX9_findRows_90 : DE cX9_findRows 90 (.iconst 1) 1 := dop_4 (dn_w dw172_5 10 rfl)
theorem dX9_findRows_91 : DE cX9_findRows 91 (.iadd) 1 := dop_96 (dn_w dw172_5 11 rfl)
theorem dX9_findRows_92 : DE cX9_findRows 92 (.putfield 257) 3 := dop_181 (dn_w dw172_5 12 rfl) rfl
theorem dX9_findRows_95 : DE cX9_findRows 95 (.goto (-86)) 3 := dop_167 (dn_w dw172_5 15 rfl) rfl
theorem dX9_findRows_98 : DE cX9_findRows 98 (.aload_n 0) 1 := dop_42 (dn_w dw172_6 2 rfl)
theorem dX9_findRows_99 : DE cX9_findRows 99 (.iconst 0) 1 := dop_3 (dn_w dw172_6 3 rfl)
theorem dX9_findRows_100 : DE cX9_findRows 100 (.putfield 222) 3 := dop_181 (dn_w dw172_6 4 rfl) rfl
theorem dX9_findRows_103 : DE cX9_findRows 103 (.return_) 1 := dop_177 (dn_w dw172_6 7 rfl)
noncomputable def dt173_3 : List Nat := 79 :: 132 :: 2 :: 1 :: 167 :: 255 :: 231 :: 42 :: 180 :: 0 :: 199 :: 172 :: []
noncomputable def dt173_2 : List Nat := 199 :: 104 :: 162 :: 0 :: 21 :: 42 :: 180 :: 0 :: 53 :: 28 :: 42 :: 180 :: 0 :: 56 :: 28 :: 46 :: dt173_3
noncomputable def dt173_1 : List Nat := 4 :: 42 :: 42 :: 180 :: 1 :: 1 :: 181 :: 0 :: 199 :: 3 :: 61 :: 28 :: 6 :: 42 :: 180 :: 0 :: dt173_2
noncomputable def dt173_0 : List Nat := 27 :: 4 :: 16 :: 20 :: 184 :: 0 :: 87 :: 154 :: 0 :: 5 :: 2 :: 172 :: 42 :: 27 :: 182 :: 1 :: dt173_1
theorem dw173_0 : dn cX9_prove 0 = dt173_0 := by decide +kernel
theorem dw173_1 : dn cX9_prove 16 = dt173_1 := dn_w dw173_0 16 rfl
theorem dw173_2 : dn cX9_prove 32 = dt173_2 := dn_w dw173_1 16 rfl
theorem dw173_3 : dn cX9_prove 48 = dt173_3 := dn_w dw173_2 16 rfl
theorem dX9_prove_0 : DE cX9_prove 0 (.iload_n 1) 1 := dop_27 (dn_w dw173_0 0 rfl)
theorem dX9_prove_1 : DE cX9_prove 1 (.iconst 1) 1 := dop_4 (dn_w dw173_0 1 rfl)
theorem dX9_prove_2 : DE cX9_prove 2 (.bipush 20) 2 := dop_16 (dn_w dw173_0 2 rfl) rfl
theorem dX9_prove_4 : DE cX9_prove 4 (.invokestatic 87) 3 := dop_184 (dn_w dw173_0 4 rfl) rfl
theorem dX9_prove_7 : DE cX9_prove 7 (.ifCond .ne 5) 3 := dop_154 (dn_w dw173_0 7 rfl) rfl
theorem dX9_prove_10 : DE cX9_prove 10 (.iconst (-1)) 1 := dop_2 (dn_w dw173_0 10 rfl)
theorem dX9_prove_11 : DE cX9_prove 11 (.ireturn) 1 := dop_172 (dn_w dw173_0 11 rfl)
theorem dX9_prove_12 : DE cX9_prove 12 (.aload_n 0) 1 := dop_42 (dn_w dw173_0 12 rfl)
theorem dX9_prove_13 : DE cX9_prove 13 (.iload_n 1) 1 := dop_27 (dn_w dw173_0 13 rfl)
theorem dX9_prove_14 : DE cX9_prove 14 (.invokevirtual 260) 3 := dop_182 (dn_w dw173_0 14 rfl) rfl
theorem dX9_prove_17 : DE cX9_prove 17 (.aload_n 0) 1 := dop_42 (dn_w dw173_1 1 rfl)
theorem dX9_prove_18 : DE cX9_prove 18 (.aload_n 0) 1 := dop_42 (dn_w dw173_1 2 rfl)
theorem dX9_prove_19 : DE cX9_prove 19 (.getfield 257) 3 := dop_180 (dn_w dw173_1 3 rfl) rfl
theorem dX9_prove_22 : DE cX9_prove 22 (.putfield 199) 3 := dop_181 (dn_w dw173_1 6 rfl) rfl
theorem dX9_prove_25 : DE cX9_prove 25 (.iconst 0) 1 := dop_3 (dn_w dw173_1 9 rfl)
theorem dX9_prove_26 : DE cX9_prove 26 (.istore_n 2) 1 := dop_61 (dn_w dw173_1 10 rfl)
theorem dX9_prove_27 : DE cX9_prove 27 (.iload_n 2) 1 := dop_28 (dn_w dw173_1 11 rfl)
theorem dX9_prove_28 : DE cX9_prove 28 (.iconst 3) 1 := dop_6 (dn_w dw173_1 12 rfl)
theorem dX9_prove_29 : DE cX9_prove 29 (.aload_n 0) 1 := dop_42 (dn_w dw173_1 13 rfl)
theorem dX9_prove_30 : DE cX9_prove 30 (.getfield 199) 3 := dop_180 (dn_w dw173_1 14 rfl) rfl
theorem dX9_prove_33 : DE cX9_prove 33 (.imul) 1 := dop_104 (dn_w dw173_2 1 rfl)
theorem dX9_prove_34 : DE cX9_prove 34 (.if_icmp .ge 21) 3 := dop_162 (dn_w dw173_2 2 rfl) rfl
theorem dX9_prove_37 : DE cX9_prove 37 (.aload_n 0) 1 := dop_42 (dn_w dw173_2 5 rfl)
theorem dX9_prove_38 : DE cX9_prove 38 (.getfield 53) 3 := dop_180 (dn_w dw173_2 6 rfl) rfl
theorem dX9_prove_41 : DE cX9_prove 41 (.iload_n 2) 1 := dop_28 (dn_w dw173_2 9 rfl)
theorem dX9_prove_42 : DE cX9_prove 42 (.aload_n 0) 1 := dop_42 (dn_w dw173_2 10 rfl)
theorem dX9_prove_43 : DE cX9_prove 43 (.getfield 56) 3 := dop_180 (dn_w dw173_2 11 rfl) rfl
theorem dX9_prove_46 : DE cX9_prove 46 (.iload_n 2) 1 := dop_28 (dn_w dw173_2 14 rfl)
theorem dX9_prove_47 : DE cX9_prove 47 (.iaload) 1 := dop_46 (dn_w dw173_2 15 rfl)
theorem dX9_prove_48 : DE cX9_prove 48 (.iastore) 1 := dop_79 (dn_w dw173_3 0 rfl)
theorem dX9_prove_49 : DE cX9_prove 49 (.iinc 2 1) 3 := dop_132 (dn_w dw173_3 1 rfl) rfl
theorem dX9_prove_52 : DE cX9_prove 52 (.goto (-25)) 3 := dop_167 (dn_w dw173_3 4 rfl) rfl
theorem dX9_prove_55 : DE cX9_prove 55 (.aload_n 0) 1 := dop_42 (dn_w dw173_3 7 rfl)
theorem dX9_prove_56 : DE cX9_prove 56 (.getfield 199) 3 := dop_180 (dn_w dw173_3 8 rfl) rfl
theorem dX9_prove_59 : DE cX9_prove 59 (.ireturn) 1 := dop_172 (dn_w dw173_3 11 rfl)
noncomputable def dt174_1 : List Nat := 5 :: 184 :: 0 :: 87 :: 153 :: 0 :: 7 :: 4 :: 167 :: 0 :: 4 :: 3 :: 172 :: []
noncomputable def dt174_0 : List Nat := 27 :: 3 :: 42 :: 180 :: 0 :: 199 :: 4 :: 100 :: 184 :: 0 :: 87 :: 153 :: 0 :: 16 :: 28 :: 3 :: dt174_1
theorem dw174_0 : dn cX9_isRow 0 = dt174_0 := by decide +kernel
theorem dw174_1 : dn cX9_isRow 16 = dt174_1 := dn_w dw174_0 16 rfl
theorem dX9_isRow_0 : DE cX9_isRow 0 (.iload_n 1) 1 := dop_27 (dn_w dw174_0 0 rfl)
theorem dX9_isRow_1 : DE cX9_isRow 1 (.iconst 0) 1 := dop_3 (dn_w dw174_0 1 rfl)
theorem dX9_isRow_2 : DE cX9_isRow 2 (.aload_n 0) 1 := dop_42 (dn_w dw174_0 2 rfl)
theorem dX9_isRow_3 : DE cX9_isRow 3 (.getfield 199) 3 := dop_180 (dn_w dw174_0 3 rfl) rfl
theorem dX9_isRow_6 : DE cX9_isRow 6 (.iconst 1) 1 := dop_4 (dn_w dw174_0 6 rfl)
theorem dX9_isRow_7 : DE cX9_isRow 7 (.isub) 1 := dop_100 (dn_w dw174_0 7 rfl)
theorem dX9_isRow_8 : DE cX9_isRow 8 (.invokestatic 87) 3 := dop_184 (dn_w dw174_0 8 rfl) rfl
theorem dX9_isRow_11 : DE cX9_isRow 11 (.ifCond .eq 16) 3 := dop_153 (dn_w dw174_0 11 rfl) rfl
theorem dX9_isRow_14 : DE cX9_isRow 14 (.iload_n 2) 1 := dop_28 (dn_w dw174_0 14 rfl)
theorem dX9_isRow_15 : DE cX9_isRow 15 (.iconst 0) 1 := dop_3 (dn_w dw174_0 15 rfl)
theorem dX9_isRow_16 : DE cX9_isRow 16 (.iconst 2) 1 := dop_5 (dn_w dw174_1 0 rfl)
theorem dX9_isRow_17 : DE cX9_isRow 17 (.invokestatic 87) 3 := dop_184 (dn_w dw174_1 1 rfl) rfl
theorem dX9_isRow_20 : DE cX9_isRow 20 (.ifCond .eq 7) 3 := dop_153 (dn_w dw174_1 4 rfl) rfl
theorem dX9_isRow_23 : DE cX9_isRow 23 (.iconst 1) 1 := dop_4 (dn_w dw174_1 7 rfl)
theorem dX9_isRow_24 : DE cX9_isRow 24 (.goto 4) 3 := dop_167 (dn_w dw174_1 8 rfl) rfl
theorem dX9_isRow_27 : DE cX9_isRow 27 (.iconst 0) 1 := dop_3 (dn_w dw174_1 11 rfl)
theorem dX9_isRow_28 : DE cX9_isRow 28 (.ireturn) 1 := dop_172 (dn_w dw174_1 12 rfl)
noncomputable def dt175_1 : List Nat := 28 :: 96 :: 46 :: 167 :: 0 :: 5 :: 16 :: 247 :: 172 :: []
noncomputable def dt175_0 : List Nat := 42 :: 27 :: 28 :: 182 :: 1 :: 7 :: 153 :: 0 :: 16 :: 42 :: 180 :: 0 :: 53 :: 6 :: 27 :: 104 :: dt175_1
theorem dw175_0 : dn cX9_row 0 = dt175_0 := by decide +kernel
theorem dw175_1 : dn cX9_row 16 = dt175_1 := dn_w dw175_0 16 rfl
theorem dX9_row_0 : DE cX9_row 0 (.aload_n 0) 1 := dop_42 (dn_w dw175_0 0 rfl)
theorem dX9_row_1 : DE cX9_row 1 (.iload_n 1) 1 := dop_27 (dn_w dw175_0 1 rfl)
theorem dX9_row_2 : DE cX9_row 2 (.iload_n 2) 1 := dop_28 (dn_w dw175_0 2 rfl)
theorem dX9_row_3 : DE cX9_row 3 (.invokevirtual 263) 3 := dop_182 (dn_w dw175_0 3 rfl) rfl
theorem dX9_row_6 : DE cX9_row 6 (.ifCond .eq 16) 3 := dop_153 (dn_w dw175_0 6 rfl) rfl
theorem dX9_row_9 : DE cX9_row 9 (.aload_n 0) 1 := dop_42 (dn_w dw175_0 9 rfl)
theorem dX9_row_10 : DE cX9_row 10 (.getfield 53) 3 := dop_180 (dn_w dw175_0 10 rfl) rfl
theorem dX9_row_13 : DE cX9_row 13 (.iconst 3) 1 := dop_6 (dn_w dw175_0 13 rfl)
theorem dX9_row_14 : DE cX9_row 14 (.iload_n 1) 1 := dop_27 (dn_w dw175_0 14 rfl)
theorem dX9_row_15 : DE cX9_row 15 (.imul) 1 := dop_104 (dn_w dw175_0 15 rfl)
theorem dX9_row_16 : DE cX9_row 16 (.iload_n 2) 1 := dop_28 (dn_w dw175_1 0 rfl)
theorem dX9_row_17 : DE cX9_row 17 (.iadd) 1 := dop_96 (dn_w dw175_1 1 rfl)
theorem dX9_row_18 : DE cX9_row 18 (.iaload) 1 := dop_46 (dn_w dw175_1 2 rfl)
theorem dX9_row_19 : DE cX9_row 19 (.goto 5) 3 := dop_167 (dn_w dw175_1 3 rfl) rfl
theorem dX9_row_22 : DE cX9_row 22 (.bipush (-9)) 2 := dop_16 (dn_w dw175_1 6 rfl) rfl
theorem dX9_row_24 : DE cX9_row 24 (.ireturn) 1 := dop_172 (dn_w dw175_1 8 rfl)
noncomputable def dt176_2 : List Nat := 96 :: 29 :: 79 :: 21 :: 4 :: 172 :: []
noncomputable def dt176_1 : List Nat := 6 :: 27 :: 104 :: 28 :: 96 :: 46 :: 54 :: 4 :: 42 :: 180 :: 0 :: 53 :: 6 :: 27 :: 104 :: 28 :: dt176_2
noncomputable def dt176_0 : List Nat := 42 :: 27 :: 28 :: 182 :: 1 :: 7 :: 154 :: 0 :: 6 :: 16 :: 247 :: 172 :: 42 :: 180 :: 0 :: 53 :: dt176_1
theorem dw176_0 : dn cX9_alterRow 0 = dt176_0 := by decide +kernel
theorem dw176_1 : dn cX9_alterRow 16 = dt176_1 := dn_w dw176_0 16 rfl
theorem dw176_2 : dn cX9_alterRow 32 = dt176_2 := dn_w dw176_1 16 rfl
theorem dX9_alterRow_0 : DE cX9_alterRow 0 (.aload_n 0) 1 := dop_42 (dn_w dw176_0 0 rfl)
theorem dX9_alterRow_1 : DE cX9_alterRow 1 (.iload_n 1) 1 := dop_27 (dn_w dw176_0 1 rfl)
theorem dX9_alterRow_2 : DE cX9_alterRow 2 (.iload_n 2) 1 := dop_28 (dn_w dw176_0 2 rfl)
theorem dX9_alterRow_3 : DE cX9_alterRow 3 (.invokevirtual 263) 3 := dop_182 (dn_w dw176_0 3 rfl) rfl
theorem dX9_alterRow_6 : DE cX9_alterRow 6 (.ifCond .ne 6) 3 := dop_154 (dn_w dw176_0 6 rfl) rfl
theorem dX9_alterRow_9 : DE cX9_alterRow 9 (.bipush (-9)) 2 := dop_16 (dn_w dw176_0 9 rfl) rfl
theorem dX9_alterRow_11 : DE cX9_alterRow 11 (.ireturn) 1 := dop_172 (dn_w dw176_0 11 rfl)
theorem dX9_alterRow_12 : DE cX9_alterRow 12 (.aload_n 0) 1 := dop_42 (dn_w dw176_0 12 rfl)
theorem dX9_alterRow_13 : DE cX9_alterRow 13 (.getfield 53) 3 := dop_180 (dn_w dw176_0 13 rfl) rfl
theorem dX9_alterRow_16 : DE cX9_alterRow 16 (.iconst 3) 1 := dop_6 (dn_w dw176_1 0 rfl)
theorem dX9_alterRow_17 : DE cX9_alterRow 17 (.iload_n 1) 1 := dop_27 (dn_w dw176_1 1 rfl)
theorem dX9_alterRow_18 : DE cX9_alterRow 18 (.imul) 1 := dop_104 (dn_w dw176_1 2 rfl)
theorem dX9_alterRow_19 : DE cX9_alterRow 19 (.iload_n 2) 1 := dop_28 (dn_w dw176_1 3 rfl)
theorem dX9_alterRow_20 : DE cX9_alterRow 20 (.iadd) 1 := dop_96 (dn_w dw176_1 4 rfl)
theorem dX9_alterRow_21 : DE cX9_alterRow 21 (.iaload) 1 := dop_46 (dn_w dw176_1 5 rfl)
theorem dX9_alterRow_22 : DE cX9_alterRow 22 (.istore 4) 2 := dop_54 (dn_w dw176_1 6 rfl)
theorem dX9_alterRow_24 : DE cX9_alterRow 24 (.aload_n 0) 1 := dop_42 (dn_w dw176_1 8 rfl)
theorem dX9_alterRow_25 : DE cX9_alterRow 25 (.getfield 53) 3 := dop_180 (dn_w dw176_1 9 rfl) rfl
theorem dX9_alterRow_28 : DE cX9_alterRow 28 (.iconst 3) 1 := dop_6 (dn_w dw176_1 12 rfl)
theorem dX9_alterRow_29 : DE cX9_alterRow 29 (.iload_n 1) 1 := dop_27 (dn_w dw176_1 13 rfl)
theorem dX9_alterRow_30 : DE cX9_alterRow 30 (.imul) 1 := dop_104 (dn_w dw176_1 14 rfl)
theorem dX9_alterRow_31 : DE cX9_alterRow 31 (.iload_n 2) 1 := dop_28 (dn_w dw176_1 15 rfl)
theorem dX9_alterRow_32 : DE cX9_alterRow 32 (.iadd) 1 := dop_96 (dn_w dw176_2 0 rfl)
theorem dX9_alterRow_33 : DE cX9_alterRow 33 (.iload_n 3) 1 := dop_29 (dn_w dw176_2 1 rfl)
theorem dX9_alterRow_34 : DE cX9_alterRow 34 (.iastore) 1 := dop_79 (dn_w dw176_2 2 rfl)
theorem dX9_alterRow_35 : DE cX9_alterRow 35 (.iload 4) 2 := dop_21 (dn_w dw176_2 3 rfl)
theorem dX9_alterRow_37 : DE cX9_alterRow 37 (.ireturn) 1 := dop_172 (dn_w dw176_2 5 rfl)
noncomputable def dt177_5 : List Nat := 0 :: 7 :: 27 :: 4 :: 96 :: 172 :: 132 :: 1 :: 1 :: 167 :: 255 :: 177 :: 3 :: 172 :: []
noncomputable def dt177_4 : List Nat := 0 :: 7 :: 4 :: 167 :: 0 :: 4 :: 3 :: 61 :: 132 :: 3 :: 1 :: 167 :: 255 :: 215 :: 28 :: 154 :: dt177_5
noncomputable def dt177_3 : List Nat := 27 :: 104 :: 29 :: 96 :: 46 :: 42 :: 180 :: 0 :: 56 :: 6 :: 27 :: 104 :: 29 :: 96 :: 46 :: 160 :: dt177_4
noncomputable def dt177_2 : List Nat := 3 :: 62 :: 29 :: 6 :: 162 :: 0 :: 42 :: 28 :: 153 :: 0 :: 38 :: 42 :: 180 :: 0 :: 53 :: 6 :: dt177_3
noncomputable def dt177_1 : List Nat := 0 :: 77 :: 27 :: 42 :: 180 :: 1 :: 1 :: 162 :: 0 :: 7 :: 4 :: 167 :: 0 :: 4 :: 3 :: 61 :: dt177_2
noncomputable def dt177_0 : List Nat := 42 :: 42 :: 180 :: 0 :: 199 :: 182 :: 1 :: 4 :: 3 :: 60 :: 27 :: 42 :: 180 :: 0 :: 199 :: 162 :: dt177_1
theorem dw177_0 : dn cX9_judge 0 = dt177_0 := by decide +kernel
theorem dw177_1 : dn cX9_judge 16 = dt177_1 := dn_w dw177_0 16 rfl
theorem dw177_2 : dn cX9_judge 32 = dt177_2 := dn_w dw177_1 16 rfl
theorem dw177_3 : dn cX9_judge 48 = dt177_3 := dn_w dw177_2 16 rfl
theorem dw177_4 : dn cX9_judge 64 = dt177_4 := dn_w dw177_3 16 rfl
theorem dw177_5 : dn cX9_judge 80 = dt177_5 := dn_w dw177_4 16 rfl
theorem dX9_judge_0 : DE cX9_judge 0 (.aload_n 0) 1 := dop_42 (dn_w dw177_0 0 rfl)
theorem dX9_judge_1 : DE cX9_judge 1 (.aload_n 0) 1 := dop_42 (dn_w dw177_0 1 rfl)
theorem dX9_judge_2 : DE cX9_judge 2 (.getfield 199) 3 := dop_180 (dn_w dw177_0 2 rfl) rfl
theorem dX9_judge_5 : DE cX9_judge 5 (.invokevirtual 260) 3 := dop_182 (dn_w dw177_0 5 rfl) rfl
theorem dX9_judge_8 : DE cX9_judge 8 (.iconst 0) 1 := dop_3 (dn_w dw177_0 8 rfl)
theorem dX9_judge_9 : DE cX9_judge 9 (.istore_n 1) 1 := dop_60 (dn_w dw177_0 9 rfl)
theorem dX9_judge_10 : DE cX9_judge 10 (.iload_n 1) 1 := dop_27 (dn_w dw177_0 10 rfl)
theorem dX9_judge_11 : DE cX9_judge 11 (.aload_n 0) 1 := dop_42 (dn_w dw177_0 11 rfl)
theorem dX9_judge_12 : DE cX9_judge 12 (.getfield 199) 3 := dop_180 (dn_w dw177_0 12 rfl) rfl
theorem dX9_judge_15 : DE cX9_judge 15 (.if_icmp .ge 77) 3 := dop_162 (dn_w dw177_0 15 rfl) rfl
theorem dX9_judge_18 : DE cX9_judge 18 (.iload_n 1) 1 := dop_27 (dn_w dw177_1 2 rfl)
theorem dX9_judge_19 : DE cX9_judge 19 (.aload_n 0) 1 := dop_42 (dn_w dw177_1 3 rfl)
theorem dX9_judge_20 : DE cX9_judge 20 (.getfield 257) 3 := dop_180 (dn_w dw177_1 4 rfl) rfl
theorem dX9_judge_23 : DE cX9_judge 23 (.if_icmp .ge 7) 3 := dop_162 (dn_w dw177_1 7 rfl) rfl
theorem dX9_judge_26 : DE cX9_judge 26 (.iconst 1) 1 := dop_4 (dn_w dw177_1 10 rfl)
theorem dX9_judge_27 : DE cX9_judge 27 (.goto 4) 3 := dop_167 (dn_w dw177_1 11 rfl) rfl
theorem dX9_judge_30 : DE cX9_judge 30 (.iconst 0) 1 := dop_3 (dn_w dw177_1 14 rfl)
theorem dX9_judge_31 : DE cX9_judge 31 (.istore_n 2) 1 := dop_61 (dn_w dw177_1 15 rfl)
theorem dX9_judge_32 : DE cX9_judge 32 (.iconst 0) 1 := dop_3 (dn_w dw177_2 0 rfl)
theorem dX9_judge_33 : DE cX9_judge 33 (.istore_n 3) 1 := dop_62 (dn_w dw177_2 1 rfl)
theorem dX9_judge_34 : DE cX9_judge 34 (.iload_n 3) 1 := dop_29 (dn_w dw177_2 2 rfl)
theorem dX9_judge_35 : DE cX9_judge 35 (.iconst 3) 1 := dop_6 (dn_w dw177_2 3 rfl)
theorem dX9_judge_36 : DE cX9_judge 36 (.if_icmp .ge 42) 3 := dop_162 (dn_w dw177_2 4 rfl) rfl
theorem dX9_judge_39 : DE cX9_judge 39 (.iload_n 2) 1 := dop_28 (dn_w dw177_2 7 rfl)
theorem dX9_judge_40 : DE cX9_judge 40 (.ifCond .eq 38) 3 := dop_153 (dn_w dw177_2 8 rfl) rfl
theorem dX9_judge_43 : DE cX9_judge 43 (.aload_n 0) 1 := dop_42 (dn_w dw177_2 11 rfl)
theorem dX9_judge_44 : DE cX9_judge 44 (.getfield 53) 3 := dop_180 (dn_w dw177_2 12 rfl) rfl
theorem dX9_judge_47 : DE cX9_judge 47 (.iconst 3) 1 := dop_6 (dn_w dw177_2 15 rfl)
theorem dX9_judge_48 : DE cX9_judge 48 (.iload_n 1) 1 := dop_27 (dn_w dw177_3 0 rfl)
theorem dX9_judge_49 : DE cX9_judge 49 (.imul) 1 := dop_104 (dn_w dw177_3 1 rfl)
theorem dX9_judge_50 : DE cX9_judge 50 (.iload_n 3) 1 := dop_29 (dn_w dw177_3 2 rfl)
theorem dX9_judge_51 : DE cX9_judge 51 (.iadd) 1 := dop_96 (dn_w dw177_3 3 rfl)
theorem dX9_judge_52 : DE cX9_judge 52 (.iaload) 1 := dop_46 (dn_w dw177_3 4 rfl)
theorem dX9_judge_53 : DE cX9_judge 53 (.aload_n 0) 1 := dop_42 (dn_w dw177_3 5 rfl)
theorem dX9_judge_54 : DE cX9_judge 54 (.getfield 56) 3 := dop_180 (dn_w dw177_3 6 rfl) rfl
theorem dX9_judge_57 : DE cX9_judge 57 (.iconst 3) 1 := dop_6 (dn_w dw177_3 9 rfl)
theorem dX9_judge_58 : DE cX9_judge 58 (.iload_n 1) 1 := dop_27 (dn_w dw177_3 10 rfl)
theorem dX9_judge_59 : DE cX9_judge 59 (.imul) 1 := dop_104 (dn_w dw177_3 11 rfl)
theorem dX9_judge_60 : DE cX9_judge 60 (.iload_n 3) 1 := dop_29 (dn_w dw177_3 12 rfl)
theorem dX9_judge_61 : DE cX9_judge 61 (.iadd) 1 := dop_96 (dn_w dw177_3 13 rfl)
theorem dX9_judge_62 : DE cX9_judge 62 (.iaload) 1 := dop_46 (dn_w dw177_3 14 rfl)
theorem dX9_judge_63 : DE cX9_judge 63 (.if_icmp .ne 7) 3 := dop_160 (dn_w dw177_3 15 rfl) rfl
theorem dX9_judge_66 : DE cX9_judge 66 (.iconst 1) 1 := dop_4 (dn_w dw177_4 2 rfl)
theorem dX9_judge_67 : DE cX9_judge 67 (.goto 4) 3 := dop_167 (dn_w dw177_4 3 rfl) rfl
theorem dX9_judge_70 : DE cX9_judge 70 (.iconst 0) 1 := dop_3 (dn_w dw177_4 6 rfl)
theorem dX9_judge_71 : DE cX9_judge 71 (.istore_n 2) 1 := dop_61 (dn_w dw177_4 7 rfl)
theorem dX9_judge_72 : DE cX9_judge 72 (.iinc 3 1) 3 := dop_132 (dn_w dw177_4 8 rfl) rfl
theorem dX9_judge_75 : DE cX9_judge 75 (.goto (-41)) 3 := dop_167 (dn_w dw177_4 11 rfl) rfl
theorem dX9_judge_78 : DE cX9_judge 78 (.iload_n 2) 1 := dop_28 (dn_w dw177_4 14 rfl)
theorem dX9_judge_79 : DE cX9_judge 79 (.ifCond .ne 7) 3 := dop_154 (dn_w dw177_4 15 rfl) rfl
theorem dX9_judge_82 : DE cX9_judge 82 (.iload_n 1) 1 := dop_27 (dn_w dw177_5 2 rfl)
theorem dX9_judge_83 : DE cX9_judge 83 (.iconst 1) 1 := dop_4 (dn_w dw177_5 3 rfl)
theorem dX9_judge_84 : DE cX9_judge 84 (.iadd) 1 := dop_96 (dn_w dw177_5 4 rfl)
theorem dX9_judge_85 : DE cX9_judge 85 (.ireturn) 1 := dop_172 (dn_w dw177_5 5 rfl)
theorem dX9_judge_86 : DE cX9_judge 86 (.iinc 1 1) 3 := dop_132 (dn_w dw177_5 6 rfl) rfl
theorem dX9_judge_89 : DE cX9_judge 89 (.goto (-79)) 3 := dop_167 (dn_w dw177_5 9 rfl) rfl
theorem dX9_judge_92 : DE cX9_judge 92 (.iconst 0) 1 := dop_3 (dn_w dw177_5 12 rfl)
theorem dX9_judge_93 : DE cX9_judge 93 (.ireturn) 1 := dop_172 (dn_w dw177_5 13 rfl)
noncomputable def dt178_7 : List Nat := 1 :: 167 :: 255 :: 218 :: 21 :: 4 :: 172 :: []
noncomputable def dt178_6 : List Nat := 27 :: 104 :: 28 :: 96 :: 21 :: 6 :: 96 :: 47 :: 20 :: 1 :: 16 :: 127 :: 136 :: 79 :: 132 :: 6 :: dt178_7
noncomputable def dt178_5 : List Nat := 0 :: 37 :: 42 :: 180 :: 0 :: 16 :: 29 :: 21 :: 6 :: 96 :: 42 :: 180 :: 0 :: 65 :: 16 :: 40 :: dt178_6
noncomputable def dt178_4 : List Nat := 4 :: 100 :: 164 :: 0 :: 6 :: 16 :: 244 :: 172 :: 3 :: 54 :: 6 :: 21 :: 6 :: 21 :: 4 :: 162 :: dt178_5
noncomputable def dt178_3 : List Nat := 6 :: 21 :: 5 :: 172 :: 28 :: 155 :: 0 :: 16 :: 28 :: 42 :: 180 :: 0 :: 62 :: 27 :: 46 :: 21 :: dt178_4
noncomputable def dt178_2 : List Nat := 0 :: 5 :: 2 :: 172 :: 42 :: 27 :: 3 :: 182 :: 1 :: 13 :: 54 :: 5 :: 21 :: 5 :: 153 :: 0 :: dt178_3
noncomputable def dt178_1 : List Nat := 3 :: 16 :: 40 :: 184 :: 0 :: 87 :: 153 :: 0 :: 12 :: 29 :: 21 :: 4 :: 96 :: 16 :: 40 :: 164 :: dt178_2
noncomputable def dt178_0 : List Nat := 27 :: 184 :: 1 :: 10 :: 153 :: 0 :: 30 :: 29 :: 184 :: 0 :: 212 :: 153 :: 0 :: 23 :: 21 :: 4 :: dt178_1
theorem dw178_0 : dn cX9_events 0 = dt178_0 := by decide +kernel
theorem dw178_1 : dn cX9_events 16 = dt178_1 := dn_w dw178_0 16 rfl
theorem dw178_2 : dn cX9_events 32 = dt178_2 := dn_w dw178_1 16 rfl
theorem dw178_3 : dn cX9_events 48 = dt178_3 := dn_w dw178_2 16 rfl
theorem dw178_4 : dn cX9_events 64 = dt178_4 := dn_w dw178_3 16 rfl
theorem dw178_5 : dn cX9_events 80 = dt178_5 := dn_w dw178_4 16 rfl
theorem dw178_6 : dn cX9_events 96 = dt178_6 := dn_w dw178_5 16 rfl
theorem dw178_7 : dn cX9_events 112 = dt178_7 := dn_w dw178_6 16 rfl
theorem dX9_events_0 : DE cX9_events 0 (.iload_n 1) 1 := dop_27 (dn_w dw178_0 0 rfl)
theorem dX9_events_1 : DE cX9_events 1 (.invokestatic 266) 3 := dop_184 (dn_w dw178_0 1 rfl) rfl
theorem dX9_events_4 : DE cX9_events 4 (.ifCond .eq 30) 3 := dop_153 (dn_w dw178_0 4 rfl) rfl
theorem dX9_events_7 : DE cX9_events 7 (.iload_n 3) 1 := dop_29 (dn_w dw178_0 7 rfl)
theorem dX9_events_8 : DE cX9_events 8 (.invokestatic 212) 3 := dop_184 (dn_w dw178_0 8 rfl) rfl
theorem dX9_events_11 : DE cX9_events 11 (.ifCond .eq 23) 3 := dop_153 (dn_w dw178_0 11 rfl) rfl
theorem dX9_events_14 : DE cX9_events 14 (.iload 4) 2 := dop_21 (dn_w dw178_0 14 rfl)
theorem dX9_events_16 : DE cX9_events 16 (.iconst 0) 1 := dop_3 (dn_w dw178_1 0 rfl)
theorem dX9_events_17 : DE cX9_events 17 (.bipush 40) 2 := dop_16 (dn_w dw178_1 1 rfl) rfl
theorem dX9_events_19 : DE cX9_events 19 (.invokestatic 87) 3 := dop_184 (dn_w dw178_1 3 rfl) rfl
theorem dX9_events_22 : DE cX9_events 22 (.ifCond .eq 12) 3 := dop_153 (dn_w dw178_1 6 rfl) rfl
theorem dX9_events_25 : DE cX9_events 25 (.iload_n 3) 1 := dop_29 (dn_w dw178_1 9 rfl)
theorem dX9_events_26 : DE cX9_events 26 (.iload 4) 2 := dop_21 (dn_w dw178_1 10 rfl)
theorem dX9_events_28 : DE cX9_events 28 (.iadd) 1 := dop_96 (dn_w dw178_1 12 rfl)
theorem dX9_events_29 : DE cX9_events 29 (.bipush 40) 2 := dop_16 (dn_w dw178_1 13 rfl) rfl
theorem dX9_events_31 : DE cX9_events 31 (.if_icmp .le 5) 3 := dop_164 (dn_w dw178_1 15 rfl) rfl
theorem dX9_events_34 : DE cX9_events 34 (.iconst (-1)) 1 := dop_2 (dn_w dw178_2 2 rfl)
theorem dX9_events_35 : DE cX9_events 35 (.ireturn) 1 := dop_172 (dn_w dw178_2 3 rfl)
theorem dX9_events_36 : DE cX9_events 36 (.aload_n 0) 1 := dop_42 (dn_w dw178_2 4 rfl)
theorem dX9_events_37 : DE cX9_events 37 (.iload_n 1) 1 := dop_27 (dn_w dw178_2 5 rfl)
theorem dX9_events_38 : DE cX9_events 38 (.iconst 0) 1 := dop_3 (dn_w dw178_2 6 rfl)
theorem dX9_events_39 : DE cX9_events 39 (.invokevirtual 269) 3 := dop_182 (dn_w dw178_2 7 rfl) rfl
theorem dX9_events_42 : DE cX9_events 42 (.istore 5) 2 := dop_54 (dn_w dw178_2 10 rfl)
theorem dX9_events_44 : DE cX9_events 44 (.iload 5) 2 := dop_21 (dn_w dw178_2 12 rfl)
theorem dX9_events_46 : DE cX9_events 46 (.ifCond .eq 6) 3 := dop_153 (dn_w dw178_2 14 rfl) rfl
theorem dX9_events_49 : DE cX9_events 49 (.iload 5) 2 := dop_21 (dn_w dw178_3 1 rfl)
theorem dX9_events_51 : DE cX9_events 51 (.ireturn) 1 := dop_172 (dn_w dw178_3 3 rfl)
theorem dX9_events_52 : DE cX9_events 52 (.iload_n 2) 1 := dop_28 (dn_w dw178_3 4 rfl)
theorem dX9_events_53 : DE cX9_events 53 (.ifCond .lt 16) 3 := dop_155 (dn_w dw178_3 5 rfl) rfl
theorem dX9_events_56 : DE cX9_events 56 (.iload_n 2) 1 := dop_28 (dn_w dw178_3 8 rfl)
theorem dX9_events_57 : DE cX9_events 57 (.aload_n 0) 1 := dop_42 (dn_w dw178_3 9 rfl)
theorem dX9_events_58 : DE cX9_events 58 (.getfield 62) 3 := dop_180 (dn_w dw178_3 10 rfl) rfl
theorem dX9_events_61 : DE cX9_events 61 (.iload_n 1) 1 := dop_27 (dn_w dw178_3 13 rfl)
theorem dX9_events_62 : DE cX9_events 62 (.iaload) 1 := dop_46 (dn_w dw178_3 14 rfl)
theorem dX9_events_63 : DE cX9_events 63 (.iload 4) 2 := dop_21 (dn_w dw178_3 15 rfl)
theorem dX9_events_65 : DE cX9_events 65 (.isub) 1 := dop_100 (dn_w dw178_4 1 rfl)
theorem dX9_events_66 : DE cX9_events 66 (.if_icmp .le 6) 3 := dop_164 (dn_w dw178_4 2 rfl) rfl
theorem dX9_events_69 : DE cX9_events 69 (.bipush (-12)) 2 := dop_16 (dn_w dw178_4 5 rfl) rfl
theorem dX9_events_71 : DE cX9_events 71 (.ireturn) 1 := dop_172 (dn_w dw178_4 7 rfl)
theorem dX9_events_72 : DE cX9_events 72 (.iconst 0) 1 := dop_3 (dn_w dw178_4 8 rfl)
theorem dX9_events_73 : DE cX9_events 73 (.istore 6) 2 := dop_54 (dn_w dw178_4 9 rfl)
theorem dX9_events_75 : DE cX9_events 75 (.iload 6) 2 := dop_21 (dn_w dw178_4 11 rfl)
theorem dX9_events_77 : DE cX9_events 77 (.iload 4) 2 := dop_21 (dn_w dw178_4 13 rfl)
theorem dX9_events_79 : DE cX9_events 79 (.if_icmp .ge 37) 3 := dop_162 (dn_w dw178_4 15 rfl) rfl
theorem dX9_events_82 : DE cX9_events 82 (.aload_n 0) 1 := dop_42 (dn_w dw178_5 2 rfl)
theorem dX9_events_83 : DE cX9_events 83 (.getfield 16) 3 := dop_180 (dn_w dw178_5 3 rfl) rfl
theorem dX9_events_86 : DE cX9_events 86 (.iload_n 3) 1 := dop_29 (dn_w dw178_5 6 rfl)
theorem dX9_events_87 : DE cX9_events 87 (.iload 6) 2 := dop_21 (dn_w dw178_5 7 rfl)
theorem dX9_events_89 : DE cX9_events 89 (.iadd) 1 := dop_96 (dn_w dw178_5 9 rfl)
theorem dX9_events_90 : DE cX9_events 90 (.aload_n 0) 1 := dop_42 (dn_w dw178_5 10 rfl)
theorem dX9_events_91 : DE cX9_events 91 (.getfield 65) 3 := dop_180 (dn_w dw178_5 11 rfl) rfl
theorem dX9_events_94 : DE cX9_events 94 (.bipush 40) 2 := dop_16 (dn_w dw178_5 14 rfl) rfl
theorem dX9_events_96 : DE cX9_events 96 (.iload_n 1) 1 := dop_27 (dn_w dw178_6 0 rfl)
theorem dX9_events_97 : DE cX9_events 97 (.imul) 1 := dop_104 (dn_w dw178_6 1 rfl)
theorem dX9_events_98 : DE cX9_events 98 (.iload_n 2) 1 := dop_28 (dn_w dw178_6 2 rfl)
theorem dX9_events_99 : DE cX9_events 99 (.iadd) 1 := dop_96 (dn_w dw178_6 3 rfl)
theorem dX9_events_100 : DE cX9_events 100 (.iload 6) 2 := dop_21 (dn_w dw178_6 4 rfl)
theorem dX9_events_102 : DE cX9_events 102 (.iadd) 1 := dop_96 (dn_w dw178_6 6 rfl)
theorem dX9_events_103 : DE cX9_events 103 (.laload) 1 := dop_47 (dn_w dw178_6 7 rfl)
theorem dX9_events_104 : DE cX9_events 104 (.ldc2_w 272) 3 := dop_20 (dn_w dw178_6 8 rfl) rfl
theorem dX9_events_107 : DE cX9_events 107 (.land) 1 := dop_127 (dn_w dw178_6 11 rfl)
theorem dX9_events_108 : DE cX9_events 108 (.l2i) 1 := dop_136 (dn_w dw178_6 12 rfl)
theorem dX9_events_109 : DE cX9_events 109 (.iastore) 1 := dop_79 (dn_w dw178_6 13 rfl)
theorem dX9_events_110 : DE cX9_events 110 (.iinc 6 1) 3 := dop_132 (dn_w dw178_6 14 rfl) rfl
theorem dX9_events_113 : DE cX9_events 113 (.goto (-38)) 3 := dop_167 (dn_w dw178_7 1 rfl) rfl
theorem dX9_events_116 : DE cX9_events 116 (.iload 4) 2 := dop_21 (dn_w dw178_7 4 rfl)
theorem dX9_events_118 : DE cX9_events 118 (.ireturn) 1 := dop_172 (dn_w dw178_7 6 rfl)
noncomputable def dt179_0 : List Nat := 26 :: 3 :: 6 :: 184 :: 0 :: 87 :: 172 :: []
theorem dw179_0 : dn cX9_isShelf 0 = dt179_0 := by decide +kernel
theorem dX9_isShelf_0 : DE cX9_isShelf 0 (.iload_n 0) 1 := dop_26 (dn_w dw179_0 0 rfl)
theorem dX9_isShelf_1 : DE cX9_isShelf 1 (.iconst 0) 1 := dop_3 (dn_w dw179_0 1 rfl)
theorem dX9_isShelf_2 : DE cX9_isShelf 2 (.iconst 3) 1 := dop_6 (dn_w dw179_0 2 rfl)
theorem dX9_isShelf_3 : DE cX9_isShelf 3 (.invokestatic 87) 3 := dop_184 (dn_w dw179_0 3 rfl) rfl
theorem dX9_isShelf_6 : DE cX9_isShelf 6 (.ireturn) 1 := dop_172 (dn_w dw179_0 6 rfl)
noncomputable def dt180_5 : List Nat := 4 :: 96 :: 9 :: 80 :: 132 :: 4 :: 1 :: 167 :: 255 :: 233 :: 4 :: 172 :: []
noncomputable def dt180_4 : List Nat := 21 :: 4 :: 16 :: 40 :: 162 :: 0 :: 22 :: 42 :: 180 :: 0 :: 65 :: 16 :: 40 :: 27 :: 104 :: 21 :: dt180_5
noncomputable def dt180_3 : List Nat := 0 :: 62 :: 27 :: 28 :: 156 :: 0 :: 7 :: 3 :: 167 :: 0 :: 4 :: 29 :: 79 :: 3 :: 54 :: 4 :: dt180_4
noncomputable def dt180_2 : List Nat := 29 :: 156 :: 0 :: 6 :: 16 :: 242 :: 172 :: 42 :: 180 :: 0 :: 59 :: 27 :: 28 :: 79 :: 42 :: 180 :: dt180_3
noncomputable def dt180_1 : List Nat := 28 :: 155 :: 0 :: 11 :: 29 :: 16 :: 40 :: 164 :: 0 :: 5 :: 2 :: 172 :: 28 :: 155 :: 0 :: 10 :: dt180_2
noncomputable def dt180_0 : List Nat := 27 :: 184 :: 1 :: 10 :: 153 :: 0 :: 22 :: 28 :: 2 :: 6 :: 184 :: 0 :: 87 :: 153 :: 0 :: 13 :: dt180_1
theorem dw180_0 : dn cX9_sheet 0 = dt180_0 := by decide +kernel
theorem dw180_1 : dn cX9_sheet 16 = dt180_1 := dn_w dw180_0 16 rfl
theorem dw180_2 : dn cX9_sheet 32 = dt180_2 := dn_w dw180_1 16 rfl
theorem dw180_3 : dn cX9_sheet 48 = dt180_3 := dn_w dw180_2 16 rfl
theorem dw180_4 : dn cX9_sheet 64 = dt180_4 := dn_w dw180_3 16 rfl
theorem dw180_5 : dn cX9_sheet 80 = dt180_5 := dn_w dw180_4 16 rfl
theorem dX9_sheet_0 : DE cX9_sheet 0 (.iload_n 1) 1 := dop_27 (dn_w dw180_0 0 rfl)
theorem dX9_sheet_1 : DE cX9_sheet 1 (.invokestatic 266) 3 := dop_184 (dn_w dw180_0 1 rfl) rfl
theorem dX9_sheet_4 : DE cX9_sheet 4 (.ifCond .eq 22) 3 := dop_153 (dn_w dw180_0 4 rfl) rfl
theorem dX9_sheet_7 : DE cX9_sheet 7 (.iload_n 2) 1 := dop_28 (dn_w dw180_0 7 rfl)
theorem dX9_sheet_8 : DE cX9_sheet 8 (.iconst (-1)) 1 := dop_2 (dn_w dw180_0 8 rfl)
theorem dX9_sheet_9 : DE cX9_sheet 9 (.iconst 3) 1 := dop_6 (dn_w dw180_0 9 rfl)
theorem dX9_sheet_10 : DE cX9_sheet 10 (.invokestatic 87) 3 := dop_184 (dn_w dw180_0 10 rfl) rfl
theorem dX9_sheet_13 : DE cX9_sheet 13 (.ifCond .eq 13) 3 := dop_153 (dn_w dw180_0 13 rfl) rfl
theorem dX9_sheet_16 : DE cX9_sheet 16 (.iload_n 2) 1 := dop_28 (dn_w dw180_1 0 rfl)
theorem dX9_sheet_17 : DE cX9_sheet 17 (.ifCond .lt 11) 3 := dop_155 (dn_w dw180_1 1 rfl) rfl
theorem dX9_sheet_20 : DE cX9_sheet 20 (.iload_n 3) 1 := dop_29 (dn_w dw180_1 4 rfl)
theorem dX9_sheet_21 : DE cX9_sheet 21 (.bipush 40) 2 := dop_16 (dn_w dw180_1 5 rfl) rfl
theorem dX9_sheet_23 : DE cX9_sheet 23 (.if_icmp .le 5) 3 := dop_164 (dn_w dw180_1 7 rfl) rfl
theorem dX9_sheet_26 : DE cX9_sheet 26 (.iconst (-1)) 1 := dop_2 (dn_w dw180_1 10 rfl)
theorem dX9_sheet_27 : DE cX9_sheet 27 (.ireturn) 1 := dop_172 (dn_w dw180_1 11 rfl)
theorem dX9_sheet_28 : DE cX9_sheet 28 (.iload_n 2) 1 := dop_28 (dn_w dw180_1 12 rfl)
theorem dX9_sheet_29 : DE cX9_sheet 29 (.ifCond .lt 10) 3 := dop_155 (dn_w dw180_1 13 rfl) rfl
theorem dX9_sheet_32 : DE cX9_sheet 32 (.iload_n 3) 1 := dop_29 (dn_w dw180_2 0 rfl)
theorem dX9_sheet_33 : DE cX9_sheet 33 (.ifCond .ge 6) 3 := dop_156 (dn_w dw180_2 1 rfl) rfl
theorem dX9_sheet_36 : DE cX9_sheet 36 (.bipush (-14)) 2 := dop_16 (dn_w dw180_2 4 rfl) rfl
theorem dX9_sheet_38 : DE cX9_sheet 38 (.ireturn) 1 := dop_172 (dn_w dw180_2 6 rfl)
theorem dX9_sheet_39 : DE cX9_sheet 39 (.aload_n 0) 1 := dop_42 (dn_w dw180_2 7 rfl)
theorem dX9_sheet_40 : DE cX9_sheet 40 (.getfield 59) 3 := dop_180 (dn_w dw180_2 8 rfl) rfl
theorem dX9_sheet_43 : DE cX9_sheet 43 (.iload_n 1) 1 := dop_27 (dn_w dw180_2 11 rfl)
theorem dX9_sheet_44 : DE cX9_sheet 44 (.iload_n 2) 1 := dop_28 (dn_w dw180_2 12 rfl)
theorem dX9_sheet_45 : DE cX9_sheet 45 (.iastore) 1 := dop_79 (dn_w dw180_2 13 rfl)
theorem dX9_sheet_46 : DE cX9_sheet 46 (.aload_n 0) 1 := dop_42 (dn_w dw180_2 14 rfl)
theorem dX9_sheet_47 : DE cX9_sheet 47 (.getfield 62) 3 := dop_180 (dn_w dw180_2 15 rfl) rfl
theorem dX9_sheet_50 : DE cX9_sheet 50 (.iload_n 1) 1 := dop_27 (dn_w dw180_3 2 rfl)
theorem dX9_sheet_51 : DE cX9_sheet 51 (.iload_n 2) 1 := dop_28 (dn_w dw180_3 3 rfl)
theorem dX9_sheet_52 : DE cX9_sheet 52 (.ifCond .ge 7) 3 := dop_156 (dn_w dw180_3 4 rfl) rfl
theorem dX9_sheet_55 : DE cX9_sheet 55 (.iconst 0) 1 := dop_3 (dn_w dw180_3 7 rfl)
theorem dX9_sheet_56 : DE cX9_sheet 56 (.goto 4) 3 := dop_167 (dn_w dw180_3 8 rfl) rfl
theorem dX9_sheet_59 : DE cX9_sheet 59 (.iload_n 3) 1 := dop_29 (dn_w dw180_3 11 rfl)
theorem dX9_sheet_60 : DE cX9_sheet 60 (.iastore) 1 := dop_79 (dn_w dw180_3 12 rfl)
theorem dX9_sheet_61 : DE cX9_sheet 61 (.iconst 0) 1 := dop_3 (dn_w dw180_3 13 rfl)
theorem dX9_sheet_62 : DE cX9_sheet 62 (.istore 4) 2 := dop_54 (dn_w dw180_3 14 rfl)
theorem dX9_sheet_64 : DE cX9_sheet 64 (.iload 4) 2 := dop_21 (dn_w dw180_4 0 rfl)
theorem dX9_sheet_66 : DE cX9_sheet 66 (.bipush 40) 2 := dop_16 (dn_w dw180_4 2 rfl) rfl
theorem dX9_sheet_68 : DE cX9_sheet 68 (.if_icmp .ge 22) 3 := dop_162 (dn_w dw180_4 4 rfl) rfl
theorem dX9_sheet_71 : DE cX9_sheet 71 (.aload_n 0) 1 := dop_42 (dn_w dw180_4 7 rfl)
theorem dX9_sheet_72 : DE cX9_sheet 72 (.getfield 65) 3 := dop_180 (dn_w dw180_4 8 rfl) rfl
theorem dX9_sheet_75 : DE cX9_sheet 75 (.bipush 40) 2 := dop_16 (dn_w dw180_4 11 rfl) rfl
theorem dX9_sheet_77 : DE cX9_sheet 77 (.iload_n 1) 1 := dop_27 (dn_w dw180_4 13 rfl)
theorem dX9_sheet_78 : DE cX9_sheet 78 (.imul) 1 := dop_104 (dn_w dw180_4 14 rfl)
theorem dX9_sheet_79 : DE cX9_sheet 79 (.iload 4) 2 := dop_21 (dn_w dw180_4 15 rfl)
theorem dX9_sheet_81 : DE cX9_sheet 81 (.iadd) 1 := dop_96 (dn_w dw180_5 1 rfl)
theorem dX9_sheet_82 : DE cX9_sheet 82 (.lconst 0) 1 := dop_9 (dn_w dw180_5 2 rfl)
theorem dX9_sheet_83 : DE cX9_sheet 83 (.lastore) 1 := dop_80 (dn_w dw180_5 3 rfl)
theorem dX9_sheet_84 : DE cX9_sheet 84 (.iinc 4 1) 3 := dop_132 (dn_w dw180_5 4 rfl) rfl
theorem dX9_sheet_87 : DE cX9_sheet 87 (.goto (-23)) 3 := dop_167 (dn_w dw180_5 7 rfl) rfl
theorem dX9_sheet_90 : DE cX9_sheet 90 (.iconst 1) 1 := dop_4 (dn_w dw180_5 10 rfl)
theorem dX9_sheet_91 : DE cX9_sheet 91 (.ireturn) 1 := dop_172 (dn_w dw180_5 11 rfl)
noncomputable def dt181_5 : List Nat := 5 :: 29 :: 133 :: 80 :: 4 :: 172 :: []
noncomputable def dt181_4 : List Nat := 21 :: 42 :: 180 :: 0 :: 59 :: 27 :: 46 :: 4 :: 160 :: 0 :: 9 :: 29 :: 147 :: 133 :: 167 :: 0 :: dt181_5
noncomputable def dt181_3 : List Nat := 28 :: 96 :: 42 :: 180 :: 0 :: 59 :: 27 :: 46 :: 154 :: 0 :: 9 :: 29 :: 145 :: 133 :: 167 :: 0 :: dt181_4
noncomputable def dt181_2 : List Nat := 0 :: 87 :: 154 :: 0 :: 6 :: 16 :: 244 :: 172 :: 42 :: 180 :: 0 :: 65 :: 16 :: 40 :: 27 :: 104 :: dt181_3
noncomputable def dt181_1 : List Nat := 0 :: 6 :: 16 :: 245 :: 172 :: 28 :: 3 :: 42 :: 180 :: 0 :: 62 :: 27 :: 46 :: 4 :: 100 :: 184 :: dt181_2
noncomputable def dt181_0 : List Nat := 27 :: 184 :: 1 :: 10 :: 154 :: 0 :: 5 :: 2 :: 172 :: 42 :: 180 :: 0 :: 59 :: 27 :: 46 :: 156 :: dt181_1
theorem dw181_0 : dn cX9_put 0 = dt181_0 := by decide +kernel
theorem dw181_1 : dn cX9_put 16 = dt181_1 := dn_w dw181_0 16 rfl
theorem dw181_2 : dn cX9_put 32 = dt181_2 := dn_w dw181_1 16 rfl
theorem dw181_3 : dn cX9_put 48 = dt181_3 := dn_w dw181_2 16 rfl
theorem dw181_4 : dn cX9_put 64 = dt181_4 := dn_w dw181_3 16 rfl
theorem dw181_5 : dn cX9_put 80 = dt181_5 := dn_w dw181_4 16 rfl
theorem dX9_put_0 : DE cX9_put 0 (.iload_n 1) 1 := dop_27 (dn_w dw181_0 0 rfl)
theorem dX9_put_1 : DE cX9_put 1 (.invokestatic 266) 3 := dop_184 (dn_w dw181_0 1 rfl) rfl
theorem dX9_put_4 : DE cX9_put 4 (.ifCond .ne 5) 3 := dop_154 (dn_w dw181_0 4 rfl) rfl
theorem dX9_put_7 : DE cX9_put 7 (.iconst (-1)) 1 := dop_2 (dn_w dw181_0 7 rfl)
theorem dX9_put_8 : DE cX9_put 8 (.ireturn) 1 := dop_172 (dn_w dw181_0 8 rfl)
theorem dX9_put_9 : DE cX9_put 9 (.aload_n 0) 1 := dop_42 (dn_w dw181_0 9 rfl)
theorem dX9_put_10 : DE cX9_put 10 (.getfield 59) 3 := dop_180 (dn_w dw181_0 10 rfl) rfl
theorem dX9_put_13 : DE cX9_put 13 (.iload_n 1) 1 := dop_27 (dn_w dw181_0 13 rfl)
theorem dX9_put_14 : DE cX9_put 14 (.iaload) 1 := dop_46 (dn_w dw181_0 14 rfl)
theorem dX9_put_15 : DE cX9_put 15 (.ifCond .ge 6) 3 := dop_156 (dn_w dw181_0 15 rfl) rfl
theorem dX9_put_18 : DE cX9_put 18 (.bipush (-11)) 2 := dop_16 (dn_w dw181_1 2 rfl) rfl
theorem dX9_put_20 : DE cX9_put 20 (.ireturn) 1 := dop_172 (dn_w dw181_1 4 rfl)
theorem dX9_put_21 : DE cX9_put 21 (.iload_n 2) 1 := dop_28 (dn_w dw181_1 5 rfl)
theorem dX9_put_22 : DE cX9_put 22 (.iconst 0) 1 := dop_3 (dn_w dw181_1 6 rfl)
theorem dX9_put_23 : DE cX9_put 23 (.aload_n 0) 1 := dop_42 (dn_w dw181_1 7 rfl)
theorem dX9_put_24 : DE cX9_put 24 (.getfield 62) 3 := dop_180 (dn_w dw181_1 8 rfl) rfl
theorem dX9_put_27 : DE cX9_put 27 (.iload_n 1) 1 := dop_27 (dn_w dw181_1 11 rfl)
theorem dX9_put_28 : DE cX9_put 28 (.iaload) 1 := dop_46 (dn_w dw181_1 12 rfl)
theorem dX9_put_29 : DE cX9_put 29 (.iconst 1) 1 := dop_4 (dn_w dw181_1 13 rfl)
theorem dX9_put_30 : DE cX9_put 30 (.isub) 1 := dop_100 (dn_w dw181_1 14 rfl)
theorem dX9_put_31 : DE cX9_put 31 (.invokestatic 87) 3 := dop_184 (dn_w dw181_1 15 rfl) rfl
theorem dX9_put_34 : DE cX9_put 34 (.ifCond .ne 6) 3 := dop_154 (dn_w dw181_2 2 rfl) rfl
theorem dX9_put_37 : DE cX9_put 37 (.bipush (-12)) 2 := dop_16 (dn_w dw181_2 5 rfl) rfl
theorem dX9_put_39 : DE cX9_put 39 (.ireturn) 1 := dop_172 (dn_w dw181_2 7 rfl)
theorem dX9_put_40 : DE cX9_put 40 (.aload_n 0) 1 := dop_42 (dn_w dw181_2 8 rfl)
theorem dX9_put_41 : DE cX9_put 41 (.getfield 65) 3 := dop_180 (dn_w dw181_2 9 rfl) rfl
theorem dX9_put_44 : DE cX9_put 44 (.bipush 40) 2 := dop_16 (dn_w dw181_2 12 rfl) rfl
theorem dX9_put_46 : DE cX9_put 46 (.iload_n 1) 1 := dop_27 (dn_w dw181_2 14 rfl)
theorem dX9_put_47 : DE cX9_put 47 (.imul) 1 := dop_104 (dn_w dw181_2 15 rfl)
theorem dX9_put_48 : DE cX9_put 48 (.iload_n 2) 1 := dop_28 (dn_w dw181_3 0 rfl)
theorem dX9_put_49 : DE cX9_put 49 (.iadd) 1 := dop_96 (dn_w dw181_3 1 rfl)
theorem dX9_put_50 : DE cX9_put 50 (.aload_n 0) 1 := dop_42 (dn_w dw181_3 2 rfl)
theorem dX9_put_51 : DE cX9_put 51 (.getfield 59) 3 := dop_180 (dn_w dw181_3 3 rfl) rfl
theorem dX9_put_54 : DE cX9_put 54 (.iload_n 1) 1 := dop_27 (dn_w dw181_3 6 rfl)
theorem dX9_put_55 : DE cX9_put 55 (.iaload) 1 := dop_46 (dn_w dw181_3 7 rfl)
theorem dX9_put_56 : DE cX9_put 56 (.ifCond .ne 9) 3 := dop_154 (dn_w dw181_3 8 rfl) rfl
theorem dX9_put_59 : DE cX9_put 59 (.iload_n 3) 1 := dop_29 (dn_w dw181_3 11 rfl)
theorem dX9_put_60 : DE cX9_put 60 (.i2b) 1 := dop_145 (dn_w dw181_3 12 rfl)
theorem dX9_put_61 : DE cX9_put 61 (.i2l) 1 := dop_133 (dn_w dw181_3 13 rfl)
theorem dX9_put_62 : DE cX9_put 62 (.goto 21) 3 := dop_167 (dn_w dw181_3 14 rfl) rfl
theorem dX9_put_65 : DE cX9_put 65 (.aload_n 0) 1 := dop_42 (dn_w dw181_4 1 rfl)
theorem dX9_put_66 : DE cX9_put 66 (.getfield 59) 3 := dop_180 (dn_w dw181_4 2 rfl) rfl
theorem dX9_put_69 : DE cX9_put 69 (.iload_n 1) 1 := dop_27 (dn_w dw181_4 5 rfl)
theorem dX9_put_70 : DE cX9_put 70 (.iaload) 1 := dop_46 (dn_w dw181_4 6 rfl)
theorem dX9_put_71 : DE cX9_put 71 (.iconst 1) 1 := dop_4 (dn_w dw181_4 7 rfl)
theorem dX9_put_72 : DE cX9_put 72 (.if_icmp .ne 9) 3 := dop_160 (dn_w dw181_4 8 rfl) rfl
theorem dX9_put_75 : DE cX9_put 75 (.iload_n 3) 1 := dop_29 (dn_w dw181_4 11 rfl)
theorem dX9_put_76 : DE cX9_put 76 (.i2s) 1 := dop_147 (dn_w dw181_4 12 rfl)
theorem dX9_put_77 : DE cX9_put 77 (.i2l) 1 := dop_133 (dn_w dw181_4 13 rfl)
theorem dX9_put_78 : DE cX9_put 78 (.goto 5) 3 := dop_167 (dn_w dw181_4 14 rfl) rfl
theorem dX9_put_81 : DE cX9_put 81 (.iload_n 3) 1 := dop_29 (dn_w dw181_5 1 rfl)
theorem dX9_put_82 : DE cX9_put 82 (.i2l) 1 := dop_133 (dn_w dw181_5 2 rfl)
theorem dX9_put_83 : DE cX9_put 83 (.lastore) 1 := dop_80 (dn_w dw181_5 3 rfl)
theorem dX9_put_84 : DE cX9_put 84 (.iconst 1) 1 := dop_4 (dn_w dw181_5 4 rfl)
theorem dX9_put_85 : DE cX9_put 85 (.ireturn) 1 := dop_172 (dn_w dw181_5 5 rfl)
noncomputable def dt182_1 : List Nat := 0 :: 59 :: 27 :: 46 :: 28 :: 159 :: 0 :: 8 :: 16 :: 243 :: 167 :: 0 :: 4 :: 3 :: 172 :: []
noncomputable def dt182_0 : List Nat := 42 :: 180 :: 0 :: 59 :: 27 :: 46 :: 156 :: 0 :: 8 :: 16 :: 245 :: 167 :: 0 :: 19 :: 42 :: 180 :: dt182_1
theorem dw182_0 : dn cX9_lacksSort 0 = dt182_0 := by decide +kernel
theorem dw182_1 : dn cX9_lacksSort 16 = dt182_1 := dn_w dw182_0 16 rfl
theorem dX9_lacksSort_0 : DE cX9_lacksSort 0 (.aload_n 0) 1 := dop_42 (dn_w dw182_0 0 rfl)
theorem dX9_lacksSort_1 : DE cX9_lacksSort 1 (.getfield 59) 3 := dop_180 (dn_w dw182_0 1 rfl) rfl
theorem dX9_lacksSort_4 : DE cX9_lacksSort 4 (.iload_n 1) 1 := dop_27 (dn_w dw182_0 4 rfl)
theorem dX9_lacksSort_5 : DE cX9_lacksSort 5 (.iaload) 1 := dop_46 (dn_w dw182_0 5 rfl)
theorem dX9_lacksSort_6 : DE cX9_lacksSort 6 (.ifCond .ge 8) 3 := dop_156 (dn_w dw182_0 6 rfl) rfl
theorem dX9_lacksSort_9 : DE cX9_lacksSort 9 (.bipush (-11)) 2 := dop_16 (dn_w dw182_0 9 rfl) rfl
theorem dX9_lacksSort_11 : DE cX9_lacksSort 11 (.goto 19) 3 := dop_167 (dn_w dw182_0 11 rfl) rfl
theorem dX9_lacksSort_14 : DE cX9_lacksSort 14 (.aload_n 0) 1 := dop_42 (dn_w dw182_0 14 rfl)
theorem dX9_lacksSort_15 : DE cX9_lacksSort 15 (.getfield 59) 3 := dop_180 (dn_w dw182_0 15 rfl) rfl
theorem dX9_lacksSort_18 : DE cX9_lacksSort 18 (.iload_n 1) 1 := dop_27 (dn_w dw182_1 2 rfl)
theorem dX9_lacksSort_19 : DE cX9_lacksSort 19 (.iaload) 1 := dop_46 (dn_w dw182_1 3 rfl)
theorem dX9_lacksSort_20 : DE cX9_lacksSort 20 (.iload_n 2) 1 := dop_28 (dn_w dw182_1 4 rfl)
theorem dX9_lacksSort_21 : DE cX9_lacksSort 21 (.if_icmp .eq 8) 3 := dop_159 (dn_w dw182_1 5 rfl) rfl
theorem dX9_lacksSort_24 : DE cX9_lacksSort 24 (.bipush (-13)) 2 := dop_16 (dn_w dw182_1 8 rfl) rfl
theorem dX9_lacksSort_26 : DE cX9_lacksSort 26 (.goto 4) 3 := dop_167 (dn_w dw182_1 10 rfl) rfl
theorem dX9_lacksSort_29 : DE cX9_lacksSort 29 (.iconst 0) 1 := dop_3 (dn_w dw182_1 13 rfl)
theorem dX9_lacksSort_30 : DE cX9_lacksSort 30 (.ireturn) 1 := dop_172 (dn_w dw182_1 14 rfl)
noncomputable def dt183_4 : List Nat := 5 :: 16 :: 244 :: 172 :: []
noncomputable def dt183_3 : List Nat := 0 :: 18 :: 42 :: 180 :: 0 :: 65 :: 16 :: 40 :: 27 :: 104 :: 29 :: 96 :: 47 :: 136 :: 167 :: 0 :: dt183_4
noncomputable def dt183_2 : List Nat := 4 :: 172 :: 29 :: 3 :: 42 :: 180 :: 0 :: 62 :: 27 :: 46 :: 4 :: 100 :: 184 :: 0 :: 87 :: 153 :: dt183_3
noncomputable def dt183_1 : List Nat := 2 :: 172 :: 42 :: 27 :: 28 :: 182 :: 1 :: 13 :: 54 :: 4 :: 21 :: 4 :: 153 :: 0 :: 6 :: 21 :: dt183_2
noncomputable def dt183_0 : List Nat := 27 :: 184 :: 1 :: 10 :: 153 :: 0 :: 12 :: 28 :: 3 :: 6 :: 184 :: 0 :: 87 :: 154 :: 0 :: 5 :: dt183_1
theorem dw183_0 : dn cX9_item 0 = dt183_0 := by decide +kernel
theorem dw183_1 : dn cX9_item 16 = dt183_1 := dn_w dw183_0 16 rfl
theorem dw183_2 : dn cX9_item 32 = dt183_2 := dn_w dw183_1 16 rfl
theorem dw183_3 : dn cX9_item 48 = dt183_3 := dn_w dw183_2 16 rfl
theorem dw183_4 : dn cX9_item 64 = dt183_4 := dn_w dw183_3 16 rfl
theorem dX9_item_0 : DE cX9_item 0 (.iload_n 1) 1 := dop_27 (dn_w dw183_0 0 rfl)
theorem dX9_item_1 : DE cX9_item 1 (.invokestatic 266) 3 := dop_184 (dn_w dw183_0 1 rfl) rfl
theorem dX9_item_4 : DE cX9_item 4 (.ifCond .eq 12) 3 := dop_153 (dn_w dw183_0 4 rfl) rfl
theorem dX9_item_7 : DE cX9_item 7 (.iload_n 2) 1 := dop_28 (dn_w dw183_0 7 rfl)
theorem dX9_item_8 : DE cX9_item 8 (.iconst 0) 1 := dop_3 (dn_w dw183_0 8 rfl)
theorem dX9_item_9 : DE cX9_item 9 (.iconst 3) 1 := dop_6 (dn_w dw183_0 9 rfl)
theorem dX9_item_10 : DE cX9_item 10 (.invokestatic 87) 3 := dop_184 (dn_w dw183_0 10 rfl) rfl
theorem dX9_item_13 : DE cX9_item 13 (.ifCond .ne 5) 3 := dop_154 (dn_w dw183_0 13 rfl) rfl
theorem dX9_item_16 : DE cX9_item 16 (.iconst (-1)) 1 := dop_2 (dn_w dw183_1 0 rfl)
theorem dX9_item_17 : DE cX9_item 17 (.ireturn) 1 := dop_172 (dn_w dw183_1 1 rfl)
theorem dX9_item_18 : DE cX9_item 18 (.aload_n 0) 1 := dop_42 (dn_w dw183_1 2 rfl)
theorem dX9_item_19 : DE cX9_item 19 (.iload_n 1) 1 := dop_27 (dn_w dw183_1 3 rfl)
theorem dX9_item_20 : DE cX9_item 20 (.iload_n 2) 1 := dop_28 (dn_w dw183_1 4 rfl)
theorem dX9_item_21 : DE cX9_item 21 (.invokevirtual 269) 3 := dop_182 (dn_w dw183_1 5 rfl) rfl
theorem dX9_item_24 : DE cX9_item 24 (.istore 4) 2 := dop_54 (dn_w dw183_1 8 rfl)
theorem dX9_item_26 : DE cX9_item 26 (.iload 4) 2 := dop_21 (dn_w dw183_1 10 rfl)
theorem dX9_item_28 : DE cX9_item 28 (.ifCond .eq 6) 3 := dop_153 (dn_w dw183_1 12 rfl) rfl
theorem dX9_item_31 : DE cX9_item 31 (.iload 4) 2 := dop_21 (dn_w dw183_1 15 rfl)
theorem dX9_item_33 : DE cX9_item 33 (.ireturn) 1 := dop_172 (dn_w dw183_2 1 rfl)
theorem dX9_item_34 : DE cX9_item 34 (.iload_n 3) 1 := dop_29 (dn_w dw183_2 2 rfl)
theorem dX9_item_35 : DE cX9_item 35 (.iconst 0) 1 := dop_3 (dn_w dw183_2 3 rfl)
theorem dX9_item_36 : DE cX9_item 36 (.aload_n 0) 1 := dop_42 (dn_w dw183_2 4 rfl)
theorem dX9_item_37 : DE cX9_item 37 (.getfield 62) 3 := dop_180 (dn_w dw183_2 5 rfl) rfl
theorem dX9_item_40 : DE cX9_item 40 (.iload_n 1) 1 := dop_27 (dn_w dw183_2 8 rfl)
theorem dX9_item_41 : DE cX9_item 41 (.iaload) 1 := dop_46 (dn_w dw183_2 9 rfl)
theorem dX9_item_42 : DE cX9_item 42 (.iconst 1) 1 := dop_4 (dn_w dw183_2 10 rfl)
theorem dX9_item_43 : DE cX9_item 43 (.isub) 1 := dop_100 (dn_w dw183_2 11 rfl)
theorem dX9_item_44 : DE cX9_item 44 (.invokestatic 87) 3 := dop_184 (dn_w dw183_2 12 rfl) rfl
theorem dX9_item_47 : DE cX9_item 47 (.ifCond .eq 18) 3 := dop_153 (dn_w dw183_2 15 rfl) rfl
theorem dX9_item_50 : DE cX9_item 50 (.aload_n 0) 1 := dop_42 (dn_w dw183_3 2 rfl)
theorem dX9_item_51 : DE cX9_item 51 (.getfield 65) 3 := dop_180 (dn_w dw183_3 3 rfl) rfl
theorem dX9_item_54 : DE cX9_item 54 (.bipush 40) 2 := dop_16 (dn_w dw183_3 6 rfl) rfl
theorem dX9_item_56 : DE cX9_item 56 (.iload_n 1) 1 := dop_27 (dn_w dw183_3 8 rfl)
theorem dX9_item_57 : DE cX9_item 57 (.imul) 1 := dop_104 (dn_w dw183_3 9 rfl)
theorem dX9_item_58 : DE cX9_item 58 (.iload_n 3) 1 := dop_29 (dn_w dw183_3 10 rfl)
theorem dX9_item_59 : DE cX9_item 59 (.iadd) 1 := dop_96 (dn_w dw183_3 11 rfl)
theorem dX9_item_60 : DE cX9_item 60 (.laload) 1 := dop_47 (dn_w dw183_3 12 rfl)
theorem dX9_item_61 : DE cX9_item 61 (.l2i) 1 := dop_136 (dn_w dw183_3 13 rfl)
theorem dX9_item_62 : DE cX9_item 62 (.goto 5) 3 := dop_167 (dn_w dw183_3 14 rfl) rfl
theorem dX9_item_65 : DE cX9_item 65 (.bipush (-12)) 2 := dop_16 (dn_w dw183_4 1 rfl) rfl
theorem dX9_item_67 : DE cX9_item 67 (.ireturn) 1 := dop_172 (dn_w dw183_4 3 rfl)
noncomputable def dt184_2 : List Nat := 4 :: 3 :: 172 :: []
noncomputable def dt184_1 : List Nat := 10 :: 28 :: 184 :: 1 :: 10 :: 167 :: 0 :: 13 :: 27 :: 5 :: 160 :: 0 :: 7 :: 4 :: 167 :: 0 :: dt184_2
noncomputable def dt184_0 : List Nat := 27 :: 154 :: 0 :: 11 :: 42 :: 28 :: 182 :: 0 :: 206 :: 167 :: 0 :: 25 :: 27 :: 4 :: 160 :: 0 :: dt184_1
theorem dw184_0 : dn cX9_isHeld 0 = dt184_0 := by decide +kernel
theorem dw184_1 : dn cX9_isHeld 16 = dt184_1 := dn_w dw184_0 16 rfl
theorem dw184_2 : dn cX9_isHeld 32 = dt184_2 := dn_w dw184_1 16 rfl
theorem dX9_isHeld_0 : DE cX9_isHeld 0 (.iload_n 1) 1 := dop_27 (dn_w dw184_0 0 rfl)
theorem dX9_isHeld_1 : DE cX9_isHeld 1 (.ifCond .ne 11) 3 := dop_154 (dn_w dw184_0 1 rfl) rfl
theorem dX9_isHeld_4 : DE cX9_isHeld 4 (.aload_n 0) 1 := dop_42 (dn_w dw184_0 4 rfl)
theorem dX9_isHeld_5 : DE cX9_isHeld 5 (.iload_n 2) 1 := dop_28 (dn_w dw184_0 5 rfl)
theorem dX9_isHeld_6 : DE cX9_isHeld 6 (.invokevirtual 206) 3 := dop_182 (dn_w dw184_0 6 rfl) rfl
theorem dX9_isHeld_9 : DE cX9_isHeld 9 (.goto 25) 3 := dop_167 (dn_w dw184_0 9 rfl) rfl
theorem dX9_isHeld_12 : DE cX9_isHeld 12 (.iload_n 1) 1 := dop_27 (dn_w dw184_0 12 rfl)
theorem dX9_isHeld_13 : DE cX9_isHeld 13 (.iconst 1) 1 := dop_4 (dn_w dw184_0 13 rfl)
theorem dX9_isHeld_14 : DE cX9_isHeld 14 (.if_icmp .ne 10) 3 := dop_160 (dn_w dw184_0 14 rfl) rfl
theorem dX9_isHeld_17 : DE cX9_isHeld 17 (.iload_n 2) 1 := dop_28 (dn_w dw184_1 1 rfl)
theorem dX9_isHeld_18 : DE cX9_isHeld 18 (.invokestatic 266) 3 := dop_184 (dn_w dw184_1 2 rfl) rfl
theorem dX9_isHeld_21 : DE cX9_isHeld 21 (.goto 13) 3 := dop_167 (dn_w dw184_1 5 rfl) rfl
theorem dX9_isHeld_24 : DE cX9_isHeld 24 (.iload_n 1) 1 := dop_27 (dn_w dw184_1 8 rfl)
theorem dX9_isHeld_25 : DE cX9_isHeld 25 (.iconst 2) 1 := dop_5 (dn_w dw184_1 9 rfl)
theorem dX9_isHeld_26 : DE cX9_isHeld 26 (.if_icmp .ne 7) 3 := dop_160 (dn_w dw184_1 10 rfl) rfl
theorem dX9_isHeld_29 : DE cX9_isHeld 29 (.iconst 1) 1 := dop_4 (dn_w dw184_1 13 rfl)
theorem dX9_isHeld_30 : DE cX9_isHeld 30 (.goto 4) 3 := dop_167 (dn_w dw184_1 14 rfl) rfl
theorem dX9_isHeld_33 : DE cX9_isHeld 33 (.iconst 0) 1 := dop_3 (dn_w dw184_2 1 rfl)
theorem dX9_isHeld_34 : DE cX9_isHeld 34 (.ireturn) 1 := dop_172 (dn_w dw184_2 2 rfl)
noncomputable def dt185_5 : List Nat := 180 :: 0 :: 62 :: 29 :: 46 :: 167 :: 0 :: 4 :: 3 :: 79 :: 4 :: 172 :: []
noncomputable def dt185_4 : List Nat := 167 :: 0 :: 4 :: 29 :: 79 :: 42 :: 180 :: 0 :: 75 :: 27 :: 28 :: 4 :: 160 :: 0 :: 12 :: 42 :: dt185_5
noncomputable def dt185_3 : List Nat := 42 :: 180 :: 0 :: 72 :: 27 :: 28 :: 4 :: 160 :: 0 :: 12 :: 42 :: 180 :: 0 :: 59 :: 29 :: 46 :: dt185_4
noncomputable def dt185_2 : List Nat := 16 :: 42 :: 180 :: 0 :: 59 :: 29 :: 46 :: 156 :: 0 :: 7 :: 2 :: 167 :: 0 :: 4 :: 28 :: 79 :: dt185_3
noncomputable def dt185_1 : List Nat := 2 :: 172 :: 42 :: 180 :: 0 :: 69 :: 27 :: 28 :: 5 :: 159 :: 0 :: 17 :: 28 :: 4 :: 160 :: 0 :: dt185_2
noncomputable def dt185_0 : List Nat := 27 :: 184 :: 1 :: 10 :: 153 :: 0 :: 12 :: 42 :: 28 :: 29 :: 182 :: 1 :: 18 :: 154 :: 0 :: 5 :: dt185_1
theorem dw185_0 : dn cX9_shelf 0 = dt185_0 := by decide +kernel
theorem dw185_1 : dn cX9_shelf 16 = dt185_1 := dn_w dw185_0 16 rfl
theorem dw185_2 : dn cX9_shelf 32 = dt185_2 := dn_w dw185_1 16 rfl
theorem dw185_3 : dn cX9_shelf 48 = dt185_3 := dn_w dw185_2 16 rfl
theorem dw185_4 : dn cX9_shelf 64 = dt185_4 := dn_w dw185_3 16 rfl
theorem dw185_5 : dn cX9_shelf 80 = dt185_5 := dn_w dw185_4 16 rfl
theorem dX9_shelf_0 : DE cX9_shelf 0 (.iload_n 1) 1 := dop_27 (dn_w dw185_0 0 rfl)
theorem dX9_shelf_1 : DE cX9_shelf 1 (.invokestatic 266) 3 := dop_184 (dn_w dw185_0 1 rfl) rfl
theorem dX9_shelf_4 : DE cX9_shelf 4 (.ifCond .eq 12) 3 := dop_153 (dn_w dw185_0 4 rfl) rfl
theorem dX9_shelf_7 : DE cX9_shelf 7 (.aload_n 0) 1 := dop_42 (dn_w dw185_0 7 rfl)
theorem dX9_shelf_8 : DE cX9_shelf 8 (.iload_n 2) 1 := dop_28 (dn_w dw185_0 8 rfl)
theorem dX9_shelf_9 : DE cX9_shelf 9 (.iload_n 3) 1 := dop_29 (dn_w dw185_0 9 rfl)
theorem dX9_shelf_10 : DE cX9_shelf 10 (.invokevirtual 274) 3 := dop_182 (dn_w dw185_0 10 rfl) rfl
theorem dX9_shelf_13 : DE cX9_shelf 13 (.ifCond .ne 5) 3 := dop_154 (dn_w dw185_0 13 rfl) rfl
theorem dX9_shelf_16 : DE cX9_shelf 16 (.iconst (-1)) 1 := dop_2 (dn_w dw185_1 0 rfl)
theorem dX9_shelf_17 : DE cX9_shelf 17 (.ireturn) 1 := dop_172 (dn_w dw185_1 1 rfl)
theorem dX9_shelf_18 : DE cX9_shelf 18 (.aload_n 0) 1 := dop_42 (dn_w dw185_1 2 rfl)
theorem dX9_shelf_19 : DE cX9_shelf 19 (.getfield 69) 3 := dop_180 (dn_w dw185_1 3 rfl) rfl
theorem dX9_shelf_22 : DE cX9_shelf 22 (.iload_n 1) 1 := dop_27 (dn_w dw185_1 6 rfl)
theorem dX9_shelf_23 : DE cX9_shelf 23 (.iload_n 2) 1 := dop_28 (dn_w dw185_1 7 rfl)
theorem dX9_shelf_24 : DE cX9_shelf 24 (.iconst 2) 1 := dop_5 (dn_w dw185_1 8 rfl)
theorem dX9_shelf_25 : DE cX9_shelf 25 (.if_icmp .eq 17) 3 := dop_159 (dn_w dw185_1 9 rfl) rfl
theorem dX9_shelf_28 : DE cX9_shelf 28 (.iload_n 2) 1 := dop_28 (dn_w dw185_1 12 rfl)
theorem dX9_shelf_29 : DE cX9_shelf 29 (.iconst 1) 1 := dop_4 (dn_w dw185_1 13 rfl)
theorem dX9_shelf_30 : DE cX9_shelf 30 (.if_icmp .ne 16) 3 := dop_160 (dn_w dw185_1 14 rfl) rfl
theorem dX9_shelf_33 : DE cX9_shelf 33 (.aload_n 0) 1 := dop_42 (dn_w dw185_2 1 rfl)
theorem dX9_shelf_34 : DE cX9_shelf 34 (.getfield 59) 3 := dop_180 (dn_w dw185_2 2 rfl) rfl
theorem dX9_shelf_37 : DE cX9_shelf 37 (.iload_n 3) 1 := dop_29 (dn_w dw185_2 5 rfl)
theorem dX9_shelf_38 : DE cX9_shelf 38 (.iaload) 1 := dop_46 (dn_w dw185_2 6 rfl)
theorem dX9_shelf_39 : DE cX9_shelf 39 (.ifCond .ge 7) 3 := dop_156 (dn_w dw185_2 7 rfl) rfl
theorem dX9_shelf_42 : DE cX9_shelf 42 (.iconst (-1)) 1 := dop_2 (dn_w dw185_2 10 rfl)
theorem dX9_shelf_43 : DE cX9_shelf 43 (.goto 4) 3 := dop_167 (dn_w dw185_2 11 rfl) rfl
theorem dX9_shelf_46 : DE cX9_shelf 46 (.iload_n 2) 1 := dop_28 (dn_w dw185_2 14 rfl)
theorem dX9_shelf_47 : DE cX9_shelf 47 (.iastore) 1 := dop_79 (dn_w dw185_2 15 rfl)
theorem dX9_shelf_48 : DE cX9_shelf 48 (.aload_n 0) 1 := dop_42 (dn_w dw185_3 0 rfl)
theorem dX9_shelf_49 : DE cX9_shelf 49 (.getfield 72) 3 := dop_180 (dn_w dw185_3 1 rfl) rfl
theorem dX9_shelf_52 : DE cX9_shelf 52 (.iload_n 1) 1 := dop_27 (dn_w dw185_3 4 rfl)
theorem dX9_shelf_53 : DE cX9_shelf 53 (.iload_n 2) 1 := dop_28 (dn_w dw185_3 5 rfl)
theorem dX9_shelf_54 : DE cX9_shelf 54 (.iconst 1) 1 := dop_4 (dn_w dw185_3 6 rfl)
theorem dX9_shelf_55 : DE cX9_shelf 55 (.if_icmp .ne 12) 3 := dop_160 (dn_w dw185_3 7 rfl) rfl
theorem dX9_shelf_58 : DE cX9_shelf 58 (.aload_n 0) 1 := dop_42 (dn_w dw185_3 10 rfl)
theorem dX9_shelf_59 : DE cX9_shelf 59 (.getfield 59) 3 := dop_180 (dn_w dw185_3 11 rfl) rfl
theorem dX9_shelf_62 : DE cX9_shelf 62 (.iload_n 3) 1 := dop_29 (dn_w dw185_3 14 rfl)
theorem dX9_shelf_63 : DE cX9_shelf 63 (.iaload) 1 := dop_46 (dn_w dw185_3 15 rfl)
theorem dX9_shelf_64 : DE cX9_shelf 64 (.goto 4) 3 := dop_167 (dn_w dw185_4 0 rfl) rfl
theorem dX9_shelf_67 : DE cX9_shelf 67 (.iload_n 3) 1 := dop_29 (dn_w dw185_4 3 rfl)
theorem dX9_shelf_68 : DE cX9_shelf 68 (.iastore) 1 := dop_79 (dn_w dw185_4 4 rfl)
theorem dX9_shelf_69 : DE cX9_shelf 69 (.aload_n 0) 1 := dop_42 (dn_w dw185_4 5 rfl)
theorem dX9_shelf_70 : DE cX9_shelf 70 (.getfield 75) 3 := dop_180 (dn_w dw185_4 6 rfl) rfl
theorem dX9_shelf_73 : DE cX9_shelf 73 (.iload_n 1) 1 := dop_27 (dn_w dw185_4 9 rfl)
theorem dX9_shelf_74 : DE cX9_shelf 74 (.iload_n 2) 1 := dop_28 (dn_w dw185_4 10 rfl)
theorem dX9_shelf_75 : DE cX9_shelf 75 (.iconst 1) 1 := dop_4 (dn_w dw185_4 11 rfl)
theorem dX9_shelf_76 : DE cX9_shelf 76 (.if_icmp .ne 12) 3 := dop_160 (dn_w dw185_4 12 rfl) rfl
theorem dX9_shelf_79 : DE cX9_shelf 79 (.aload_n 0) 1 := dop_42 (dn_w dw185_4 15 rfl)
theorem dX9_shelf_80 : DE cX9_shelf 80 (.getfield 62) 3 := dop_180 (dn_w dw185_5 0 rfl) rfl
theorem dX9_shelf_83 : DE cX9_shelf 83 (.iload_n 3) 1 := dop_29 (dn_w dw185_5 3 rfl)
theorem dX9_shelf_84 : DE cX9_shelf 84 (.iaload) 1 := dop_46 (dn_w dw185_5 4 rfl)
theorem dX9_shelf_85 : DE cX9_shelf 85 (.goto 4) 3 := dop_167 (dn_w dw185_5 5 rfl) rfl
theorem dX9_shelf_88 : DE cX9_shelf 88 (.iconst 0) 1 := dop_3 (dn_w dw185_5 8 rfl)
theorem dX9_shelf_89 : DE cX9_shelf 89 (.iastore) 1 := dop_79 (dn_w dw185_5 9 rfl)
theorem dX9_shelf_90 : DE cX9_shelf 90 (.iconst 1) 1 := dop_4 (dn_w dw185_5 10 rfl)
theorem dX9_shelf_91 : DE cX9_shelf 91 (.ireturn) 1 := dop_172 (dn_w dw185_5 11 rfl)
noncomputable def dt186_3 : List Nat := 209 :: 167 :: 0 :: 4 :: 2 :: 172 :: []
noncomputable def dt186_2 : List Nat := 182 :: 0 :: 206 :: 153 :: 0 :: 17 :: 42 :: 42 :: 180 :: 0 :: 72 :: 27 :: 46 :: 3 :: 182 :: 0 :: dt186_3
noncomputable def dt186_1 : List Nat := 0 :: 7 :: 2 :: 167 :: 0 :: 5 :: 16 :: 9 :: 172 :: 42 :: 42 :: 180 :: 0 :: 72 :: 27 :: 46 :: dt186_2
noncomputable def dt186_0 : List Nat := 42 :: 180 :: 0 :: 69 :: 27 :: 46 :: 153 :: 0 :: 19 :: 42 :: 180 :: 0 :: 69 :: 27 :: 46 :: 156 :: dt186_1
theorem dw186_0 : dn cX9_kindOn 0 = dt186_0 := by decide +kernel
theorem dw186_1 : dn cX9_kindOn 16 = dt186_1 := dn_w dw186_0 16 rfl
theorem dw186_2 : dn cX9_kindOn 32 = dt186_2 := dn_w dw186_1 16 rfl
theorem dw186_3 : dn cX9_kindOn 48 = dt186_3 := dn_w dw186_2 16 rfl
theorem dX9_kindOn_0 : DE cX9_kindOn 0 (.aload_n 0) 1 := dop_42 (dn_w dw186_0 0 rfl)
theorem dX9_kindOn_1 : DE cX9_kindOn 1 (.getfield 69) 3 := dop_180 (dn_w dw186_0 1 rfl) rfl
theorem dX9_kindOn_4 : DE cX9_kindOn 4 (.iload_n 1) 1 := dop_27 (dn_w dw186_0 4 rfl)
theorem dX9_kindOn_5 : DE cX9_kindOn 5 (.iaload) 1 := dop_46 (dn_w dw186_0 5 rfl)
theorem dX9_kindOn_6 : DE cX9_kindOn 6 (.ifCond .eq 19) 3 := dop_153 (dn_w dw186_0 6 rfl) rfl
theorem dX9_kindOn_9 : DE cX9_kindOn 9 (.aload_n 0) 1 := dop_42 (dn_w dw186_0 9 rfl)
theorem dX9_kindOn_10 : DE cX9_kindOn 10 (.getfield 69) 3 := dop_180 (dn_w dw186_0 10 rfl) rfl
theorem dX9_kindOn_13 : DE cX9_kindOn 13 (.iload_n 1) 1 := dop_27 (dn_w dw186_0 13 rfl)
theorem dX9_kindOn_14 : DE cX9_kindOn 14 (.iaload) 1 := dop_46 (dn_w dw186_0 14 rfl)
theorem dX9_kindOn_15 : DE cX9_kindOn 15 (.ifCond .ge 7) 3 := dop_156 (dn_w dw186_0 15 rfl) rfl
theorem dX9_kindOn_18 : DE cX9_kindOn 18 (.iconst (-1)) 1 := dop_2 (dn_w dw186_1 2 rfl)
theorem dX9_kindOn_19 : DE cX9_kindOn 19 (.goto 5) 3 := dop_167 (dn_w dw186_1 3 rfl) rfl
theorem dX9_kindOn_22 : DE cX9_kindOn 22 (.bipush 9) 2 := dop_16 (dn_w dw186_1 6 rfl) rfl
theorem dX9_kindOn_24 : DE cX9_kindOn 24 (.ireturn) 1 := dop_172 (dn_w dw186_1 8 rfl)
theorem dX9_kindOn_25 : DE cX9_kindOn 25 (.aload_n 0) 1 := dop_42 (dn_w dw186_1 9 rfl)
theorem dX9_kindOn_26 : DE cX9_kindOn 26 (.aload_n 0) 1 := dop_42 (dn_w dw186_1 10 rfl)
theorem dX9_kindOn_27 : DE cX9_kindOn 27 (.getfield 72) 3 := dop_180 (dn_w dw186_1 11 rfl) rfl
theorem dX9_kindOn_30 : DE cX9_kindOn 30 (.iload_n 1) 1 := dop_27 (dn_w dw186_1 14 rfl)
theorem dX9_kindOn_31 : DE cX9_kindOn 31 (.iaload) 1 := dop_46 (dn_w dw186_1 15 rfl)
theorem dX9_kindOn_32 : DE cX9_kindOn 32 (.invokevirtual 206) 3 := dop_182 (dn_w dw186_2 0 rfl) rfl
theorem dX9_kindOn_35 : DE cX9_kindOn 35 (.ifCond .eq 17) 3 := dop_153 (dn_w dw186_2 3 rfl) rfl
theorem dX9_kindOn_38 : DE cX9_kindOn 38 (.aload_n 0) 1 := dop_42 (dn_w dw186_2 6 rfl)
theorem dX9_kindOn_39 : DE cX9_kindOn 39 (.aload_n 0) 1 := dop_42 (dn_w dw186_2 7 rfl)
theorem dX9_kindOn_40 : DE cX9_kindOn 40 (.getfield 72) 3 := dop_180 (dn_w dw186_2 8 rfl) rfl
theorem dX9_kindOn_43 : DE cX9_kindOn 43 (.iload_n 1) 1 := dop_27 (dn_w dw186_2 11 rfl)
theorem dX9_kindOn_44 : DE cX9_kindOn 44 (.iaload) 1 := dop_46 (dn_w dw186_2 12 rfl)
theorem dX9_kindOn_45 : DE cX9_kindOn 45 (.iconst 0) 1 := dop_3 (dn_w dw186_2 13 rfl)
theorem dX9_kindOn_46 : DE cX9_kindOn 46 (.invokevirtual 209) 3 := dop_182 (dn_w dw186_2 14 rfl) rfl
theorem dX9_kindOn_49 : DE cX9_kindOn 49 (.goto 4) 3 := dop_167 (dn_w dw186_3 1 rfl) rfl
theorem dX9_kindOn_52 : DE cX9_kindOn 52 (.iconst (-1)) 1 := dop_2 (dn_w dw186_3 4 rfl)
theorem dX9_kindOn_53 : DE cX9_kindOn 53 (.ireturn) 1 := dop_172 (dn_w dw186_3 5 rfl)
noncomputable def dt187_2 : List Nat := 4 :: 3 :: 172 :: []
noncomputable def dt187_1 : List Nat := 159 :: 0 :: 13 :: 27 :: 5 :: 160 :: 0 :: 12 :: 26 :: 8 :: 160 :: 0 :: 7 :: 4 :: 167 :: 0 :: dt187_2
noncomputable def dt187_0 : List Nat := 27 :: 153 :: 0 :: 28 :: 27 :: 26 :: 159 :: 0 :: 23 :: 27 :: 4 :: 160 :: 0 :: 8 :: 26 :: 7 :: dt187_1
theorem dw187_0 : dn cX9_isUnder 0 = dt187_0 := by decide +kernel
theorem dw187_1 : dn cX9_isUnder 16 = dt187_1 := dn_w dw187_0 16 rfl
theorem dw187_2 : dn cX9_isUnder 32 = dt187_2 := dn_w dw187_1 16 rfl
theorem dX9_isUnder_0 : DE cX9_isUnder 0 (.iload_n 1) 1 := dop_27 (dn_w dw187_0 0 rfl)
theorem dX9_isUnder_1 : DE cX9_isUnder 1 (.ifCond .eq 28) 3 := dop_153 (dn_w dw187_0 1 rfl) rfl
theorem dX9_isUnder_4 : DE cX9_isUnder 4 (.iload_n 1) 1 := dop_27 (dn_w dw187_0 4 rfl)
theorem dX9_isUnder_5 : DE cX9_isUnder 5 (.iload_n 0) 1 := dop_26 (dn_w dw187_0 5 rfl)
theorem dX9_isUnder_6 : DE cX9_isUnder 6 (.if_icmp .eq 23) 3 := dop_159 (dn_w dw187_0 6 rfl) rfl
theorem dX9_isUnder_9 : DE cX9_isUnder 9 (.iload_n 1) 1 := dop_27 (dn_w dw187_0 9 rfl)
theorem dX9_isUnder_10 : DE cX9_isUnder 10 (.iconst 1) 1 := dop_4 (dn_w dw187_0 10 rfl)
theorem dX9_isUnder_11 : DE cX9_isUnder 11 (.if_icmp .ne 8) 3 := dop_160 (dn_w dw187_0 11 rfl) rfl
theorem dX9_isUnder_14 : DE cX9_isUnder 14 (.iload_n 0) 1 := dop_26 (dn_w dw187_0 14 rfl)
theorem dX9_isUnder_15 : DE cX9_isUnder 15 (.iconst 4) 1 := dop_7 (dn_w dw187_0 15 rfl)
theorem dX9_isUnder_16 : DE cX9_isUnder 16 (.if_icmp .eq 13) 3 := dop_159 (dn_w dw187_1 0 rfl) rfl
theorem dX9_isUnder_19 : DE cX9_isUnder 19 (.iload_n 1) 1 := dop_27 (dn_w dw187_1 3 rfl)
theorem dX9_isUnder_20 : DE cX9_isUnder 20 (.iconst 2) 1 := dop_5 (dn_w dw187_1 4 rfl)
theorem dX9_isUnder_21 : DE cX9_isUnder 21 (.if_icmp .ne 12) 3 := dop_160 (dn_w dw187_1 5 rfl) rfl
theorem dX9_isUnder_24 : DE cX9_isUnder 24 (.iload_n 0) 1 := dop_26 (dn_w dw187_1 8 rfl)
theorem dX9_isUnder_25 : DE cX9_isUnder 25 (.iconst 5) 1 := dop_8 (dn_w dw187_1 9 rfl)
theorem dX9_isUnder_26 : DE cX9_isUnder 26 (.if_icmp .ne 7) 3 := dop_160 (dn_w dw187_1 10 rfl) rfl
theorem dX9_isUnder_29 : DE cX9_isUnder 29 (.iconst 1) 1 := dop_4 (dn_w dw187_1 13 rfl)
theorem dX9_isUnder_30 : DE cX9_isUnder 30 (.goto 4) 3 := dop_167 (dn_w dw187_1 14 rfl) rfl
theorem dX9_isUnder_33 : DE cX9_isUnder 33 (.iconst 0) 1 := dop_3 (dn_w dw187_2 1 rfl)
theorem dX9_isUnder_34 : DE cX9_isUnder 34 (.ireturn) 1 := dop_172 (dn_w dw187_2 2 rfl)
noncomputable def dt188_6 : List Nat := 16 :: 243 :: 172 :: []
noncomputable def dt188_5 : List Nat := 28 :: 184 :: 1 :: 24 :: 153 :: 0 :: 12 :: 42 :: 180 :: 0 :: 72 :: 27 :: 46 :: 167 :: 0 :: 5 :: dt188_6
noncomputable def dt188_4 : List Nat := 75 :: 27 :: 46 :: 167 :: 0 :: 5 :: 16 :: 243 :: 172 :: 28 :: 16 :: 10 :: 162 :: 0 :: 20 :: 29 :: dt188_5
noncomputable def dt188_3 : List Nat := 28 :: 16 :: 10 :: 42 :: 180 :: 0 :: 72 :: 27 :: 46 :: 96 :: 160 :: 0 :: 12 :: 42 :: 180 :: 0 :: dt188_4
noncomputable def dt188_2 : List Nat := 1 :: 21 :: 62 :: 29 :: 156 :: 0 :: 6 :: 16 :: 245 :: 172 :: 29 :: 16 :: 9 :: 160 :: 0 :: 28 :: dt188_3
noncomputable def dt188_1 : List Nat := 28 :: 16 :: 10 :: 16 :: 13 :: 184 :: 0 :: 87 :: 154 :: 0 :: 5 :: 2 :: 172 :: 42 :: 27 :: 182 :: dt188_2
noncomputable def dt188_0 : List Nat := 27 :: 184 :: 1 :: 10 :: 153 :: 0 :: 23 :: 28 :: 3 :: 8 :: 184 :: 0 :: 87 :: 154 :: 0 :: 16 :: dt188_1
theorem dw188_0 : dn cX9_taken 0 = dt188_0 := by decide +kernel
theorem dw188_1 : dn cX9_taken 16 = dt188_1 := dn_w dw188_0 16 rfl
theorem dw188_2 : dn cX9_taken 32 = dt188_2 := dn_w dw188_1 16 rfl
theorem dw188_3 : dn cX9_taken 48 = dt188_3 := dn_w dw188_2 16 rfl
theorem dw188_4 : dn cX9_taken 64 = dt188_4 := dn_w dw188_3 16 rfl
theorem dw188_5 : dn cX9_taken 80 = dt188_5 := dn_w dw188_4 16 rfl
theorem dw188_6 : dn cX9_taken 96 = dt188_6 := dn_w dw188_5 16 rfl
theorem dX9_taken_0 : DE cX9_taken 0 (.iload_n 1) 1 := dop_27 (dn_w dw188_0 0 rfl)
theorem dX9_taken_1 : DE cX9_taken 1 (.invokestatic 266) 3 := dop_184 (dn_w dw188_0 1 rfl) rfl
theorem dX9_taken_4 : DE cX9_taken 4 (.ifCond .eq 23) 3 := dop_153 (dn_w dw188_0 4 rfl) rfl
theorem dX9_taken_7 : DE cX9_taken 7 (.iload_n 2) 1 := dop_28 (dn_w dw188_0 7 rfl)
theorem dX9_taken_8 : DE cX9_taken 8 (.iconst 0) 1 := dop_3 (dn_w dw188_0 8 rfl)
theorem dX9_taken_9 : DE cX9_taken 9 (.iconst 5) 1 := dop_8 (dn_w dw188_0 9 rfl)
theorem dX9_taken_10 : DE cX9_taken 10 (.invokestatic 87) 3 := dop_184 (dn_w dw188_0 10 rfl) rfl
theorem dX9_taken_13 : DE cX9_taken 13 (.ifCond .ne 16) 3 := dop_154 (dn_w dw188_0 13 rfl) rfl
theorem dX9_taken_16 : DE cX9_taken 16 (.iload_n 2) 1 := dop_28 (dn_w dw188_1 0 rfl)
theorem dX9_taken_17 : DE cX9_taken 17 (.bipush 10) 2 := dop_16 (dn_w dw188_1 1 rfl) rfl
theorem dX9_taken_19 : DE cX9_taken 19 (.bipush 13) 2 := dop_16 (dn_w dw188_1 3 rfl) rfl
theorem dX9_taken_21 : DE cX9_taken 21 (.invokestatic 87) 3 := dop_184 (dn_w dw188_1 5 rfl) rfl
theorem dX9_taken_24 : DE cX9_taken 24 (.ifCond .ne 5) 3 := dop_154 (dn_w dw188_1 8 rfl) rfl
theorem dX9_taken_27 : DE cX9_taken 27 (.iconst (-1)) 1 := dop_2 (dn_w dw188_1 11 rfl)
theorem dX9_taken_28 : DE cX9_taken 28 (.ireturn) 1 := dop_172 (dn_w dw188_1 12 rfl)
theorem dX9_taken_29 : DE cX9_taken 29 (.aload_n 0) 1 := dop_42 (dn_w dw188_1 13 rfl)
theorem dX9_taken_30 : DE cX9_taken 30 (.iload_n 1) 1 := dop_27 (dn_w dw188_1 14 rfl)
theorem dX9_taken_31 : DE cX9_taken 31 (.invokevirtual 277) 3 := dop_182 (dn_w dw188_1 15 rfl) rfl
theorem dX9_taken_34 : DE cX9_taken 34 (.istore_n 3) 1 := dop_62 (dn_w dw188_2 2 rfl)
theorem dX9_taken_35 : DE cX9_taken 35 (.iload_n 3) 1 := dop_29 (dn_w dw188_2 3 rfl)
theorem dX9_taken_36 : DE cX9_taken 36 (.ifCond .ge 6) 3 := dop_156 (dn_w dw188_2 4 rfl) rfl
theorem dX9_taken_39 : DE cX9_taken 39 (.bipush (-11)) 2 := dop_16 (dn_w dw188_2 7 rfl) rfl
theorem dX9_taken_41 : DE cX9_taken 41 (.ireturn) 1 := dop_172 (dn_w dw188_2 9 rfl)
theorem dX9_taken_42 : DE cX9_taken 42 (.iload_n 3) 1 := dop_29 (dn_w dw188_2 10 rfl)
theorem dX9_taken_43 : DE cX9_taken 43 (.bipush 9) 2 := dop_16 (dn_w dw188_2 11 rfl) rfl
theorem dX9_taken_45 : DE cX9_taken 45 (.if_icmp .ne 28) 3 := dop_160 (dn_w dw188_2 13 rfl) rfl
theorem dX9_taken_48 : DE cX9_taken 48 (.iload_n 2) 1 := dop_28 (dn_w dw188_3 0 rfl)
theorem dX9_taken_49 : DE cX9_taken 49 (.bipush 10) 2 := dop_16 (dn_w dw188_3 1 rfl) rfl
theorem dX9_taken_51 : DE cX9_taken 51 (.aload_n 0) 1 := dop_42 (dn_w dw188_3 3 rfl)
theorem dX9_taken_52 : DE cX9_taken 52 (.getfield 72) 3 := dop_180 (dn_w dw188_3 4 rfl) rfl
theorem dX9_taken_55 : DE cX9_taken 55 (.iload_n 1) 1 := dop_27 (dn_w dw188_3 7 rfl)
theorem dX9_taken_56 : DE cX9_taken 56 (.iaload) 1 := dop_46 (dn_w dw188_3 8 rfl)
theorem dX9_taken_57 : DE cX9_taken 57 (.iadd) 1 := dop_96 (dn_w dw188_3 9 rfl)
theorem dX9_taken_58 : DE cX9_taken 58 (.if_icmp .ne 12) 3 := dop_160 (dn_w dw188_3 10 rfl) rfl
theorem dX9_taken_61 : DE cX9_taken 61 (.aload_n 0) 1 := dop_42 (dn_w dw188_3 13 rfl)
theorem dX9_taken_62 : DE cX9_taken 62 (.getfield 75) 3 := dop_180 (dn_w dw188_3 14 rfl) rfl
theorem dX9_taken_65 : DE cX9_taken 65 (.iload_n 1) 1 := dop_27 (dn_w dw188_4 1 rfl)
theorem dX9_taken_66 : DE cX9_taken 66 (.iaload) 1 := dop_46 (dn_w dw188_4 2 rfl)
theorem dX9_taken_67 : DE cX9_taken 67 (.goto 5) 3 := dop_167 (dn_w dw188_4 3 rfl) rfl
theorem dX9_taken_70 : DE cX9_taken 70 (.bipush (-13)) 2 := dop_16 (dn_w dw188_4 6 rfl) rfl
theorem dX9_taken_72 : DE cX9_taken 72 (.ireturn) 1 := dop_172 (dn_w dw188_4 8 rfl)
theorem dX9_taken_73 : DE cX9_taken 73 (.iload_n 2) 1 := dop_28 (dn_w dw188_4 9 rfl)
theorem dX9_taken_74 : DE cX9_taken 74 (.bipush 10) 2 := dop_16 (dn_w dw188_4 10 rfl) rfl
theorem dX9_taken_76 : DE cX9_taken 76 (.if_icmp .ge 20) 3 := dop_162 (dn_w dw188_4 12 rfl) rfl
theorem dX9_taken_79 : DE cX9_taken 79 (.iload_n 3) 1 := dop_29 (dn_w dw188_4 15 rfl)
theorem dX9_taken_80 : DE cX9_taken 80 (.iload_n 2) 1 := dop_28 (dn_w dw188_5 0 rfl)
theorem dX9_taken_81 : DE cX9_taken 81 (.invokestatic 280) 3 := dop_184 (dn_w dw188_5 1 rfl) rfl
theorem dX9_taken_84 : DE cX9_taken 84 (.ifCond .eq 12) 3 := dop_153 (dn_w dw188_5 4 rfl) rfl
theorem dX9_taken_87 : DE cX9_taken 87 (.aload_n 0) 1 := dop_42 (dn_w dw188_5 7 rfl)
theorem dX9_taken_88 : DE cX9_taken 88 (.getfield 72) 3 := dop_180 (dn_w dw188_5 8 rfl) rfl
theorem dX9_taken_91 : DE cX9_taken 91 (.iload_n 1) 1 := dop_27 (dn_w dw188_5 11 rfl)
theorem dX9_taken_92 : DE cX9_taken 92 (.iaload) 1 := dop_46 (dn_w dw188_5 12 rfl)
theorem dX9_taken_93 : DE cX9_taken 93 (.goto 5) 3 := dop_167 (dn_w dw188_5 13 rfl) rfl
theorem dX9_taken_96 : DE cX9_taken 96 (.bipush (-13)) 2 := dop_16 (dn_w dw188_6 0 rfl) rfl
theorem dX9_taken_98 : DE cX9_taken 98 (.ireturn) 1 := dop_172 (dn_w dw188_6 2 rfl)
noncomputable def dt189_1 : List Nat := 27 :: 27 :: 79 :: 42 :: 89 :: 180 :: 1 :: 27 :: 4 :: 96 :: 181 :: 1 :: 27 :: 177 :: []
noncomputable def dt189_0 : List Nat := 42 :: 180 :: 1 :: 27 :: 16 :: 30 :: 162 :: 0 :: 23 :: 42 :: 180 :: 0 :: 78 :: 42 :: 180 :: 1 :: dt189_1
theorem dw189_0 : dn cX9_ran 0 = dt189_0 := by decide +kernel
theorem dw189_1 : dn cX9_ran 16 = dt189_1 := dn_w dw189_0 16 rfl
theorem dX9_ran_0 : DE cX9_ran 0 (.aload_n 0) 1 := dop_42 (dn_w dw189_0 0 rfl)
theorem dX9_ran_1 : DE cX9_ran 1 (.getfield 283) 3 := dop_180 (dn_w dw189_0 1 rfl) rfl
theorem dX9_ran_4 : DE cX9_ran 4 (.bipush 30) 2 := dop_16 (dn_w dw189_0 4 rfl) rfl
theorem dX9_ran_6 : DE cX9_ran 6 (.if_icmp .ge 23) 3 := dop_162 (dn_w dw189_0 6 rfl) rfl
theorem dX9_ran_9 : DE cX9_ran 9 (.aload_n 0) 1 := dop_42 (dn_w dw189_0 9 rfl)
theorem dX9_ran_10 : DE cX9_ran 10 (.getfield 78) 3 := dop_180 (dn_w dw189_0 10 rfl) rfl
theorem dX9_ran_13 : DE cX9_ran 13 (.aload_n 0) 1 := dop_42 (dn_w dw189_0 13 rfl)
theorem dX9_ran_14 : DE cX9_ran 14 (.getfield 283) 3 := dop_180 (dn_w dw189_0 14 rfl) rfl
theorem dX9_ran_17 : DE cX9_ran 17 (.iload_n 1) 1 := dop_27 (dn_w dw189_1 1 rfl)
theorem dX9_ran_18 : DE cX9_ran 18 (.iastore) 1 := dop_79 (dn_w dw189_1 2 rfl)
theorem dX9_ran_19 : DE cX9_ran 19 (.aload_n 0) 1 := dop_42 (dn_w dw189_1 3 rfl)
theorem dX9_ran_20 : DE cX9_ran 20 (.dup) 1 := dop_89 (dn_w dw189_1 4 rfl)
theorem dX9_ran_21 : DE cX9_ran 21 (.getfield 283) 3 := dop_180 (dn_w dw189_1 5 rfl) rfl
theorem dX9_ran_24 : DE cX9_ran 24 (.iconst 1) 1 := dop_4 (dn_w dw189_1 8 rfl)
theorem dX9_ran_25 : DE cX9_ran 25 (.iadd) 1 := dop_96 (dn_w dw189_1 9 rfl)
theorem dX9_ran_26 : DE cX9_ran 26 (.putfield 283) 3 := dop_181 (dn_w dw189_1 10 rfl) rfl
theorem dX9_ran_29 : DE cX9_ran 29 (.return_) 1 := dop_177 (dn_w dw189_1 13 rfl)
noncomputable def dt190_0 : List Nat := 42 :: 16 :: 10 :: 182 :: 1 :: 30 :: 27 :: 42 :: 180 :: 1 :: 33 :: 96 :: 172 :: []
theorem dw190_0 : dn cX9_plainKnocks 0 = dt190_0 := by decide +kernel
theorem dX9_plainKnocks_0 : DE cX9_plainKnocks 0 (.aload_n 0) 1 := dop_42 (dn_w dw190_0 0 rfl)
theorem dX9_plainKnocks_1 : DE cX9_plainKnocks 1 (.bipush 10) 2 := dop_16 (dn_w dw190_0 1 rfl) rfl
theorem dX9_plainKnocks_3 : DE cX9_plainKnocks 3 (.invokevirtual 286) 3 := dop_182 (dn_w dw190_0 3 rfl) rfl
theorem dX9_plainKnocks_6 : DE cX9_plainKnocks 6 (.iload_n 1) 1 := dop_27 (dn_w dw190_0 6 rfl)
theorem dX9_plainKnocks_7 : DE cX9_plainKnocks 7 (.aload_n 0) 1 := dop_42 (dn_w dw190_0 7 rfl)
theorem dX9_plainKnocks_8 : DE cX9_plainKnocks 8 (.getfield 289) 3 := dop_180 (dn_w dw190_0 8 rfl) rfl
theorem dX9_plainKnocks_11 : DE cX9_plainKnocks 11 (.iadd) 1 := dop_96 (dn_w dw190_0 11 rfl)
theorem dX9_plainKnocks_12 : DE cX9_plainKnocks 12 (.ireturn) 1 := dop_172 (dn_w dw190_0 12 rfl)
noncomputable def dt191_0 : List Nat := 42 :: 16 :: 30 :: 182 :: 1 :: 30 :: 42 :: 27 :: 182 :: 1 :: 36 :: 6 :: 104 :: 172 :: []
theorem dw191_0 : dn cX9_illKnocks 0 = dt191_0 := by decide +kernel
theorem dX9_illKnocks_0 : DE cX9_illKnocks 0 (.aload_n 0) 1 := dop_42 (dn_w dw191_0 0 rfl)
theorem dX9_illKnocks_1 : DE cX9_illKnocks 1 (.bipush 30) 2 := dop_16 (dn_w dw191_0 1 rfl) rfl
theorem dX9_illKnocks_3 : DE cX9_illKnocks 3 (.invokevirtual 286) 3 := dop_182 (dn_w dw191_0 3 rfl) rfl
theorem dX9_illKnocks_6 : DE cX9_illKnocks 6 (.aload_n 0) 1 := dop_42 (dn_w dw191_0 6 rfl)
theorem dX9_illKnocks_7 : DE cX9_illKnocks 7 (.iload_n 1) 1 := dop_27 (dn_w dw191_0 7 rfl)
theorem dX9_illKnocks_8 : DE cX9_illKnocks 8 (.invokevirtual 292) 3 := dop_182 (dn_w dw191_0 8 rfl) rfl
theorem dX9_illKnocks_11 : DE cX9_illKnocks 11 (.iconst 3) 1 := dop_6 (dn_w dw191_0 11 rfl)
theorem dX9_illKnocks_12 : DE cX9_illKnocks 12 (.imul) 1 := dop_104 (dn_w dw191_0 12 rfl)
theorem dX9_illKnocks_13 : DE cX9_illKnocks 13 (.ireturn) 1 := dop_172 (dn_w dw191_0 13 rfl)
noncomputable def dt192_4 : List Nat := 182 :: 1 :: 36 :: 42 :: 180 :: 1 :: 33 :: 100 :: 172 :: 42 :: 27 :: 182 :: 1 :: 36 :: 172 :: []
noncomputable def dt192_3 : List Nat := 3 :: 42 :: 27 :: 182 :: 1 :: 42 :: 100 :: 172 :: 42 :: 16 :: 51 :: 182 :: 1 :: 30 :: 42 :: 27 :: dt192_4
noncomputable def dt192_2 : List Nat := 0 :: 0 :: 0 :: 38 :: 42 :: 27 :: 182 :: 1 :: 42 :: 172 :: 42 :: 16 :: 40 :: 182 :: 1 :: 30 :: dt192_3
noncomputable def dt192_1 : List Nat := 0 :: 0 :: 0 :: 5 :: 0 :: 0 :: 0 :: 32 :: 0 :: 0 :: 0 :: 69 :: 0 :: 0 :: 0 :: 52 :: dt192_2
noncomputable def dt192_0 : List Nat := 42 :: 180 :: 1 :: 39 :: 170 :: 0 :: 0 :: 0 :: 0 :: 0 :: 0 :: 69 :: 0 :: 0 :: 0 :: 2 :: dt192_1
theorem dw192_0 : dn cX9_knocksIt 0 = dt192_0 := by decide +kernel
theorem dw192_1 : dn cX9_knocksIt 16 = dt192_1 := dn_w dw192_0 16 rfl
theorem dw192_2 : dn cX9_knocksIt 32 = dt192_2 := dn_w dw192_1 16 rfl
theorem dw192_3 : dn cX9_knocksIt 48 = dt192_3 := dn_w dw192_2 16 rfl
theorem dw192_4 : dn cX9_knocksIt 64 = dt192_4 := dn_w dw192_3 16 rfl
theorem dX9_knocksIt_0 : DE cX9_knocksIt 0 (.aload_n 0) 1 := dop_42 (dn_w dw192_0 0 rfl)
theorem dX9_knocksIt_1 : DE cX9_knocksIt 1 (.getfield 295) 3 := dop_180 (dn_w dw192_0 1 rfl) rfl
theorem dX9_knocksIt_4 : decode cX9_knocksIt 4 = .ok (.tableswitch 69 2 5 #[32, 69, 52, 38], 32) := by decide +kernel
theorem dX9_knocksIt_36 : DE cX9_knocksIt 36 (.aload_n 0) 1 := dop_42 (dn_w dw192_2 4 rfl)
theorem dX9_knocksIt_37 : DE cX9_knocksIt 37 (.iload_n 1) 1 := dop_27 (dn_w dw192_2 5 rfl)
theorem dX9_knocksIt_38 : DE cX9_knocksIt 38 (.invokevirtual 298) 3 := dop_182 (dn_w dw192_2 6 rfl) rfl
theorem dX9_knocksIt_41 : DE cX9_knocksIt 41 (.ireturn) 1 := dop_172 (dn_w dw192_2 9 rfl)
theorem dX9_knocksIt_42 : DE cX9_knocksIt 42 (.aload_n 0) 1 := dop_42 (dn_w dw192_2 10 rfl)
theorem dX9_knocksIt_43 : DE cX9_knocksIt 43 (.bipush 40) 2 := dop_16 (dn_w dw192_2 11 rfl) rfl
theorem dX9_knocksIt_45 : DE cX9_knocksIt 45 (.invokevirtual 286) 3 := dop_182 (dn_w dw192_2 13 rfl) rfl
theorem dX9_knocksIt_48 : DE cX9_knocksIt 48 (.iconst 0) 1 := dop_3 (dn_w dw192_3 0 rfl)
theorem dX9_knocksIt_49 : DE cX9_knocksIt 49 (.aload_n 0) 1 := dop_42 (dn_w dw192_3 1 rfl)
theorem dX9_knocksIt_50 : DE cX9_knocksIt 50 (.iload_n 1) 1 := dop_27 (dn_w dw192_3 2 rfl)
theorem dX9_knocksIt_51 : DE cX9_knocksIt 51 (.invokevirtual 298) 3 := dop_182 (dn_w dw192_3 3 rfl) rfl
theorem dX9_knocksIt_54 : DE cX9_knocksIt 54 (.isub) 1 := dop_100 (dn_w dw192_3 6 rfl)
theorem dX9_knocksIt_55 : DE cX9_knocksIt 55 (.ireturn) 1 := dop_172 (dn_w dw192_3 7 rfl)
theorem dX9_knocksIt_56 : DE cX9_knocksIt 56 (.aload_n 0) 1 := dop_42 (dn_w dw192_3 8 rfl)
theorem dX9_knocksIt_57 : DE cX9_knocksIt 57 (.bipush 51) 2 := dop_16 (dn_w dw192_3 9 rfl) rfl
theorem dX9_knocksIt_59 : DE cX9_knocksIt 59 (.invokevirtual 286) 3 := dop_182 (dn_w dw192_3 11 rfl) rfl
theorem dX9_knocksIt_62 : DE cX9_knocksIt 62 (.aload_n 0) 1 := dop_42 (dn_w dw192_3 14 rfl)
theorem dX9_knocksIt_63 : DE cX9_knocksIt 63 (.iload_n 1) 1 := dop_27 (dn_w dw192_3 15 rfl)
theorem dX9_knocksIt_64 : DE cX9_knocksIt 64 (.invokevirtual 292) 3 := dop_182 (dn_w dw192_4 0 rfl) rfl
theorem dX9_knocksIt_67 : DE cX9_knocksIt 67 (.aload_n 0) 1 := dop_42 (dn_w dw192_4 3 rfl)
theorem dX9_knocksIt_68 : DE cX9_knocksIt 68 (.getfield 289) 3 := dop_180 (dn_w dw192_4 4 rfl) rfl
theorem dX9_knocksIt_71 : DE cX9_knocksIt 71 (.isub) 1 := dop_100 (dn_w dw192_4 7 rfl)
theorem dX9_knocksIt_72 : DE cX9_knocksIt 72 (.ireturn) 1 := dop_172 (dn_w dw192_4 8 rfl)
theorem dX9_knocksIt_73 : DE cX9_knocksIt 73 (.aload_n 0) 1 := dop_42 (dn_w dw192_4 9 rfl)
theorem dX9_knocksIt_74 : DE cX9_knocksIt 74 (.iload_n 1) 1 := dop_27 (dn_w dw192_4 10 rfl)
theorem dX9_knocksIt_75 : DE cX9_knocksIt 75 (.invokevirtual 292) 3 := dop_182 (dn_w dw192_4 11 rfl) rfl
theorem dX9_knocksIt_78 : DE cX9_knocksIt 78 (.ireturn) 1 := dop_172 (dn_w dw192_4 14 rfl)
noncomputable def dt193_0 : List Nat := 42 :: 16 :: 11 :: 182 :: 1 :: 30 :: 42 :: 27 :: 182 :: 1 :: 45 :: 5 :: 104 :: 172 :: []
theorem dw193_0 : dn cX9_plainCrosses 0 = dt193_0 := by decide +kernel
theorem dX9_plainCrosses_0 : DE cX9_plainCrosses 0 (.aload_n 0) 1 := dop_42 (dn_w dw193_0 0 rfl)
theorem dX9_plainCrosses_1 : DE cX9_plainCrosses 1 (.bipush 11) 2 := dop_16 (dn_w dw193_0 1 rfl) rfl
theorem dX9_plainCrosses_3 : DE cX9_plainCrosses 3 (.invokevirtual 286) 3 := dop_182 (dn_w dw193_0 3 rfl) rfl
theorem dX9_plainCrosses_6 : DE cX9_plainCrosses 6 (.aload_n 0) 1 := dop_42 (dn_w dw193_0 6 rfl)
theorem dX9_plainCrosses_7 : DE cX9_plainCrosses 7 (.iload_n 1) 1 := dop_27 (dn_w dw193_0 7 rfl)
theorem dX9_plainCrosses_8 : DE cX9_plainCrosses 8 (.invokevirtual 301) 3 := dop_182 (dn_w dw193_0 8 rfl) rfl
theorem dX9_plainCrosses_11 : DE cX9_plainCrosses 11 (.iconst 2) 1 := dop_5 (dn_w dw193_0 11 rfl)
theorem dX9_plainCrosses_12 : DE cX9_plainCrosses 12 (.imul) 1 := dop_104 (dn_w dw193_0 12 rfl)
theorem dX9_plainCrosses_13 : DE cX9_plainCrosses 13 (.ireturn) 1 := dop_172 (dn_w dw193_0 13 rfl)
noncomputable def dt194_4 : List Nat := 42 :: 27 :: 182 :: 1 :: 48 :: 172 :: []
noncomputable def dt194_3 : List Nat := 27 :: 182 :: 1 :: 48 :: 61 :: 28 :: 42 :: 42 :: 180 :: 1 :: 33 :: 182 :: 1 :: 45 :: 96 :: 172 :: dt194_4
noncomputable def dt194_2 : List Nat := 172 :: 42 :: 180 :: 1 :: 39 :: 8 :: 160 :: 0 :: 26 :: 42 :: 16 :: 41 :: 182 :: 1 :: 30 :: 42 :: dt194_3
noncomputable def dt194_1 : List Nat := 42 :: 16 :: 20 :: 182 :: 1 :: 30 :: 42 :: 27 :: 182 :: 1 :: 48 :: 42 :: 180 :: 1 :: 51 :: 100 :: dt194_2
noncomputable def dt194_0 : List Nat := 42 :: 180 :: 1 :: 39 :: 4 :: 159 :: 0 :: 11 :: 42 :: 180 :: 1 :: 39 :: 7 :: 160 :: 0 :: 20 :: dt194_1
theorem dw194_0 : dn cX9_crossesIt 0 = dt194_0 := by decide +kernel
theorem dw194_1 : dn cX9_crossesIt 16 = dt194_1 := dn_w dw194_0 16 rfl
theorem dw194_2 : dn cX9_crossesIt 32 = dt194_2 := dn_w dw194_1 16 rfl
theorem dw194_3 : dn cX9_crossesIt 48 = dt194_3 := dn_w dw194_2 16 rfl
theorem dw194_4 : dn cX9_crossesIt 64 = dt194_4 := dn_w dw194_3 16 rfl
theorem dX9_crossesIt_0 : DE cX9_crossesIt 0 (.aload_n 0) 1 := dop_42 (dn_w dw194_0 0 rfl)
theorem dX9_crossesIt_1 : DE cX9_crossesIt 1 (.getfield 295) 3 := dop_180 (dn_w dw194_0 1 rfl) rfl
theorem dX9_crossesIt_4 : DE cX9_crossesIt 4 (.iconst 1) 1 := dop_4 (dn_w dw194_0 4 rfl)
theorem dX9_crossesIt_5 : DE cX9_crossesIt 5 (.if_icmp .eq 11) 3 := dop_159 (dn_w dw194_0 5 rfl) rfl
theorem dX9_crossesIt_8 : DE cX9_crossesIt 8 (.aload_n 0) 1 := dop_42 (dn_w dw194_0 8 rfl)
theorem dX9_crossesIt_9 : DE cX9_crossesIt 9 (.getfield 295) 3 := dop_180 (dn_w dw194_0 9 rfl) rfl
theorem dX9_crossesIt_12 : DE cX9_crossesIt 12 (.iconst 4) 1 := dop_7 (dn_w dw194_0 12 rfl)
theorem dX9_crossesIt_13 : DE cX9_crossesIt 13 (.if_icmp .ne 20) 3 := dop_160 (dn_w dw194_0 13 rfl) rfl
theorem dX9_crossesIt_16 : DE cX9_crossesIt 16 (.aload_n 0) 1 := dop_42 (dn_w dw194_1 0 rfl)
theorem dX9_crossesIt_17 : DE cX9_crossesIt 17 (.bipush 20) 2 := dop_16 (dn_w dw194_1 1 rfl) rfl
theorem dX9_crossesIt_19 : DE cX9_crossesIt 19 (.invokevirtual 286) 3 := dop_182 (dn_w dw194_1 3 rfl) rfl
theorem dX9_crossesIt_22 : DE cX9_crossesIt 22 (.aload_n 0) 1 := dop_42 (dn_w dw194_1 6 rfl)
theorem dX9_crossesIt_23 : DE cX9_crossesIt 23 (.iload_n 1) 1 := dop_27 (dn_w dw194_1 7 rfl)
theorem dX9_crossesIt_24 : DE cX9_crossesIt 24 (.invokevirtual 304) 3 := dop_182 (dn_w dw194_1 8 rfl) rfl
theorem dX9_crossesIt_27 : DE cX9_crossesIt 27 (.aload_n 0) 1 := dop_42 (dn_w dw194_1 11 rfl)
theorem dX9_crossesIt_28 : DE cX9_crossesIt 28 (.getfield 307) 3 := dop_180 (dn_w dw194_1 12 rfl) rfl
theorem dX9_crossesIt_31 : DE cX9_crossesIt 31 (.isub) 1 := dop_100 (dn_w dw194_1 15 rfl)
theorem dX9_crossesIt_32 : DE cX9_crossesIt 32 (.ireturn) 1 := dop_172 (dn_w dw194_2 0 rfl)
theorem dX9_crossesIt_33 : DE cX9_crossesIt 33 (.aload_n 0) 1 := dop_42 (dn_w dw194_2 1 rfl)
theorem dX9_crossesIt_34 : DE cX9_crossesIt 34 (.getfield 295) 3 := dop_180 (dn_w dw194_2 2 rfl) rfl
theorem dX9_crossesIt_37 : DE cX9_crossesIt 37 (.iconst 5) 1 := dop_8 (dn_w dw194_2 5 rfl)
theorem dX9_crossesIt_38 : DE cX9_crossesIt 38 (.if_icmp .ne 26) 3 := dop_160 (dn_w dw194_2 6 rfl) rfl
theorem dX9_crossesIt_41 : DE cX9_crossesIt 41 (.aload_n 0) 1 := dop_42 (dn_w dw194_2 9 rfl)
theorem dX9_crossesIt_42 : DE cX9_crossesIt 42 (.bipush 41) 2 := dop_16 (dn_w dw194_2 10 rfl) rfl
theorem dX9_crossesIt_44 : DE cX9_crossesIt 44 (.invokevirtual 286) 3 := dop_182 (dn_w dw194_2 12 rfl) rfl
theorem dX9_crossesIt_47 : DE cX9_crossesIt 47 (.aload_n 0) 1 := dop_42 (dn_w dw194_2 15 rfl)
theorem dX9_crossesIt_48 : DE cX9_crossesIt 48 (.iload_n 1) 1 := dop_27 (dn_w dw194_3 0 rfl)
theorem dX9_crossesIt_49 : DE cX9_crossesIt 49 (.invokevirtual 304) 3 := dop_182 (dn_w dw194_3 1 rfl) rfl
theorem dX9_crossesIt_52 : DE cX9_crossesIt 52 (.istore_n 2) 1 := dop_61 (dn_w dw194_3 4 rfl)
theorem dX9_crossesIt_53 : DE cX9_crossesIt 53 (.iload_n 2) 1 := dop_28 (dn_w dw194_3 5 rfl)
theorem dX9_crossesIt_54 : DE cX9_crossesIt 54 (.aload_n 0) 1 := dop_42 (dn_w dw194_3 6 rfl)
theorem dX9_crossesIt_55 : DE cX9_crossesIt 55 (.aload_n 0) 1 := dop_42 (dn_w dw194_3 7 rfl)
theorem dX9_crossesIt_56 : DE cX9_crossesIt 56 (.getfield 289) 3 := dop_180 (dn_w dw194_3 8 rfl) rfl
theorem dX9_crossesIt_59 : DE cX9_crossesIt 59 (.invokevirtual 301) 3 := dop_182 (dn_w dw194_3 11 rfl) rfl
theorem dX9_crossesIt_62 : DE cX9_crossesIt 62 (.iadd) 1 := dop_96 (dn_w dw194_3 14 rfl)
theorem dX9_crossesIt_63 : DE cX9_crossesIt 63 (.ireturn) 1 := dop_172 (dn_w dw194_3 15 rfl)
theorem dX9_crossesIt_64 : DE cX9_crossesIt 64 (.aload_n 0) 1 := dop_42 (dn_w dw194_4 0 rfl)
theorem dX9_crossesIt_65 : DE cX9_crossesIt 65 (.iload_n 1) 1 := dop_27 (dn_w dw194_4 1 rfl)
theorem dX9_crossesIt_66 : DE cX9_crossesIt 66 (.invokevirtual 304) 3 := dop_182 (dn_w dw194_4 2 rfl) rfl
theorem dX9_crossesIt_69 : DE cX9_crossesIt 69 (.ireturn) 1 := dop_172 (dn_w dw194_4 5 rfl)
noncomputable def dt195_2 : List Nat := 33 :: 100 :: 108 :: 172 :: []
noncomputable def dt195_1 : List Nat := 10 :: 42 :: 4 :: 181 :: 1 :: 54 :: 3 :: 172 :: 27 :: 42 :: 180 :: 1 :: 51 :: 42 :: 180 :: 1 :: dt195_2
noncomputable def dt195_0 : List Nat := 42 :: 16 :: 12 :: 182 :: 1 :: 30 :: 42 :: 180 :: 1 :: 51 :: 42 :: 180 :: 1 :: 33 :: 160 :: 0 :: dt195_1
theorem dw195_0 : dn cX9_plainShares 0 = dt195_0 := by decide +kernel
theorem dw195_1 : dn cX9_plainShares 16 = dt195_1 := dn_w dw195_0 16 rfl
theorem dw195_2 : dn cX9_plainShares 32 = dt195_2 := dn_w dw195_1 16 rfl
theorem dX9_plainShares_0 : DE cX9_plainShares 0 (.aload_n 0) 1 := dop_42 (dn_w dw195_0 0 rfl)
theorem dX9_plainShares_1 : DE cX9_plainShares 1 (.bipush 12) 2 := dop_16 (dn_w dw195_0 1 rfl) rfl
theorem dX9_plainShares_3 : DE cX9_plainShares 3 (.invokevirtual 286) 3 := dop_182 (dn_w dw195_0 3 rfl) rfl
theorem dX9_plainShares_6 : DE cX9_plainShares 6 (.aload_n 0) 1 := dop_42 (dn_w dw195_0 6 rfl)
theorem dX9_plainShares_7 : DE cX9_plainShares 7 (.getfield 307) 3 := dop_180 (dn_w dw195_0 7 rfl) rfl
theorem dX9_plainShares_10 : DE cX9_plainShares 10 (.aload_n 0) 1 := dop_42 (dn_w dw195_0 10 rfl)
theorem dX9_plainShares_11 : DE cX9_plainShares 11 (.getfield 289) 3 := dop_180 (dn_w dw195_0 11 rfl) rfl
theorem dX9_plainShares_14 : DE cX9_plainShares 14 (.if_icmp .ne 10) 3 := dop_160 (dn_w dw195_0 14 rfl) rfl
theorem dX9_plainShares_17 : DE cX9_plainShares 17 (.aload_n 0) 1 := dop_42 (dn_w dw195_1 1 rfl)
theorem dX9_plainShares_18 : DE cX9_plainShares 18 (.iconst 1) 1 := dop_4 (dn_w dw195_1 2 rfl)
theorem dX9_plainShares_19 : DE cX9_plainShares 19 (.putfield 310) 3 := dop_181 (dn_w dw195_1 3 rfl) rfl
theorem dX9_plainShares_22 : DE cX9_plainShares 22 (.iconst 0) 1 := dop_3 (dn_w dw195_1 6 rfl)
theorem dX9_plainShares_23 : DE cX9_plainShares 23 (.ireturn) 1 := dop_172 (dn_w dw195_1 7 rfl)
theorem dX9_plainShares_24 : DE cX9_plainShares 24 (.iload_n 1) 1 := dop_27 (dn_w dw195_1 8 rfl)
theorem dX9_plainShares_25 : DE cX9_plainShares 25 (.aload_n 0) 1 := dop_42 (dn_w dw195_1 9 rfl)
theorem dX9_plainShares_26 : DE cX9_plainShares 26 (.getfield 307) 3 := dop_180 (dn_w dw195_1 10 rfl) rfl
theorem dX9_plainShares_29 : DE cX9_plainShares 29 (.aload_n 0) 1 := dop_42 (dn_w dw195_1 13 rfl)
theorem dX9_plainShares_30 : DE cX9_plainShares 30 (.getfield 289) 3 := dop_180 (dn_w dw195_1 14 rfl) rfl
theorem dX9_plainShares_33 : DE cX9_plainShares 33 (.isub) 1 := dop_100 (dn_w dw195_2 1 rfl)
theorem dX9_plainShares_34 : DE cX9_plainShares 34 (.idiv) 1 := dop_108 (dn_w dw195_2 2 rfl)
theorem dX9_plainShares_35 : DE cX9_plainShares 35 (.ireturn) 1 := dop_172 (dn_w dw195_2 3 rfl)
noncomputable def dt196_4 : List Nat := 96 :: 172 :: 42 :: 27 :: 182 :: 1 :: 57 :: 172 :: []
noncomputable def dt196_3 : List Nat := 153 :: 0 :: 7 :: 3 :: 167 :: 0 :: 13 :: 28 :: 42 :: 42 :: 180 :: 1 :: 51 :: 182 :: 1 :: 45 :: dt196_4
noncomputable def dt196_2 : List Nat := 42 :: 16 :: 61 :: 182 :: 1 :: 30 :: 42 :: 27 :: 182 :: 1 :: 57 :: 61 :: 42 :: 180 :: 1 :: 54 :: dt196_3
noncomputable def dt196_1 : List Nat := 5 :: 96 :: 182 :: 1 :: 57 :: 4 :: 130 :: 172 :: 42 :: 180 :: 1 :: 39 :: 6 :: 160 :: 0 :: 37 :: dt196_2
noncomputable def dt196_0 : List Nat := 42 :: 180 :: 1 :: 39 :: 7 :: 160 :: 0 :: 19 :: 42 :: 16 :: 50 :: 182 :: 1 :: 30 :: 42 :: 27 :: dt196_1
theorem dw196_0 : dn cX9_sharesIt 0 = dt196_0 := by decide +kernel
theorem dw196_1 : dn cX9_sharesIt 16 = dt196_1 := dn_w dw196_0 16 rfl
theorem dw196_2 : dn cX9_sharesIt 32 = dt196_2 := dn_w dw196_1 16 rfl
theorem dw196_3 : dn cX9_sharesIt 48 = dt196_3 := dn_w dw196_2 16 rfl
theorem dw196_4 : dn cX9_sharesIt 64 = dt196_4 := dn_w dw196_3 16 rfl
theorem dX9_sharesIt_0 : DE cX9_sharesIt 0 (.aload_n 0) 1 := dop_42 (dn_w dw196_0 0 rfl)
theorem dX9_sharesIt_1 : DE cX9_sharesIt 1 (.getfield 295) 3 := dop_180 (dn_w dw196_0 1 rfl) rfl
theorem dX9_sharesIt_4 : DE cX9_sharesIt 4 (.iconst 4) 1 := dop_7 (dn_w dw196_0 4 rfl)
theorem dX9_sharesIt_5 : DE cX9_sharesIt 5 (.if_icmp .ne 19) 3 := dop_160 (dn_w dw196_0 5 rfl) rfl
theorem dX9_sharesIt_8 : DE cX9_sharesIt 8 (.aload_n 0) 1 := dop_42 (dn_w dw196_0 8 rfl)
theorem dX9_sharesIt_9 : DE cX9_sharesIt 9 (.bipush 50) 2 := dop_16 (dn_w dw196_0 9 rfl) rfl
theorem dX9_sharesIt_11 : DE cX9_sharesIt 11 (.invokevirtual 286) 3 := dop_182 (dn_w dw196_0 11 rfl) rfl
theorem dX9_sharesIt_14 : DE cX9_sharesIt 14 (.aload_n 0) 1 := dop_42 (dn_w dw196_0 14 rfl)
theorem dX9_sharesIt_15 : DE cX9_sharesIt 15 (.iload_n 1) 1 := dop_27 (dn_w dw196_0 15 rfl)
theorem dX9_sharesIt_16 : DE cX9_sharesIt 16 (.iconst 2) 1 := dop_5 (dn_w dw196_1 0 rfl)
theorem dX9_sharesIt_17 : DE cX9_sharesIt 17 (.iadd) 1 := dop_96 (dn_w dw196_1 1 rfl)
theorem dX9_sharesIt_18 : DE cX9_sharesIt 18 (.invokevirtual 313) 3 := dop_182 (dn_w dw196_1 2 rfl) rfl
theorem dX9_sharesIt_21 : DE cX9_sharesIt 21 (.iconst 1) 1 := dop_4 (dn_w dw196_1 5 rfl)
theorem dX9_sharesIt_22 : DE cX9_sharesIt 22 (.ixor) 1 := dop_130 (dn_w dw196_1 6 rfl)
theorem dX9_sharesIt_23 : DE cX9_sharesIt 23 (.ireturn) 1 := dop_172 (dn_w dw196_1 7 rfl)
theorem dX9_sharesIt_24 : DE cX9_sharesIt 24 (.aload_n 0) 1 := dop_42 (dn_w dw196_1 8 rfl)
theorem dX9_sharesIt_25 : DE cX9_sharesIt 25 (.getfield 295) 3 := dop_180 (dn_w dw196_1 9 rfl) rfl
theorem dX9_sharesIt_28 : DE cX9_sharesIt 28 (.iconst 3) 1 := dop_6 (dn_w dw196_1 12 rfl)
theorem dX9_sharesIt_29 : DE cX9_sharesIt 29 (.if_icmp .ne 37) 3 := dop_160 (dn_w dw196_1 13 rfl) rfl
theorem dX9_sharesIt_32 : DE cX9_sharesIt 32 (.aload_n 0) 1 := dop_42 (dn_w dw196_2 0 rfl)
theorem dX9_sharesIt_33 : DE cX9_sharesIt 33 (.bipush 61) 2 := dop_16 (dn_w dw196_2 1 rfl) rfl
theorem dX9_sharesIt_35 : DE cX9_sharesIt 35 (.invokevirtual 286) 3 := dop_182 (dn_w dw196_2 3 rfl) rfl
theorem dX9_sharesIt_38 : DE cX9_sharesIt 38 (.aload_n 0) 1 := dop_42 (dn_w dw196_2 6 rfl)
theorem dX9_sharesIt_39 : DE cX9_sharesIt 39 (.iload_n 1) 1 := dop_27 (dn_w dw196_2 7 rfl)
theorem dX9_sharesIt_40 : DE cX9_sharesIt 40 (.invokevirtual 313) 3 := dop_182 (dn_w dw196_2 8 rfl) rfl
theorem dX9_sharesIt_43 : DE cX9_sharesIt 43 (.istore_n 2) 1 := dop_61 (dn_w dw196_2 11 rfl)
theorem dX9_sharesIt_44 : DE cX9_sharesIt 44 (.aload_n 0) 1 := dop_42 (dn_w dw196_2 12 rfl)
theorem dX9_sharesIt_45 : DE cX9_sharesIt 45 (.getfield 310) 3 := dop_180 (dn_w dw196_2 13 rfl) rfl
theorem dX9_sharesIt_48 : DE cX9_sharesIt 48 (.ifCond .eq 7) 3 := dop_153 (dn_w dw196_3 0 rfl) rfl
theorem dX9_sharesIt_51 : DE cX9_sharesIt 51 (.iconst 0) 1 := dop_3 (dn_w dw196_3 3 rfl)
theorem dX9_sharesIt_52 : DE cX9_sharesIt 52 (.goto 13) 3 := dop_167 (dn_w dw196_3 4 rfl) rfl
theorem dX9_sharesIt_55 : DE cX9_sharesIt 55 (.iload_n 2) 1 := dop_28 (dn_w dw196_3 7 rfl)
theorem dX9_sharesIt_56 : DE cX9_sharesIt 56 (.aload_n 0) 1 := dop_42 (dn_w dw196_3 8 rfl)
theorem dX9_sharesIt_57 : DE cX9_sharesIt 57 (.aload_n 0) 1 := dop_42 (dn_w dw196_3 9 rfl)
theorem dX9_sharesIt_58 : DE cX9_sharesIt 58 (.getfield 307) 3 := dop_180 (dn_w dw196_3 10 rfl) rfl
theorem dX9_sharesIt_61 : DE cX9_sharesIt 61 (.invokevirtual 301) 3 := dop_182 (dn_w dw196_3 13 rfl) rfl
theorem dX9_sharesIt_64 : DE cX9_sharesIt 64 (.iadd) 1 := dop_96 (dn_w dw196_4 0 rfl)
theorem dX9_sharesIt_65 : DE cX9_sharesIt 65 (.ireturn) 1 := dop_172 (dn_w dw196_4 1 rfl)
theorem dX9_sharesIt_66 : DE cX9_sharesIt 66 (.aload_n 0) 1 := dop_42 (dn_w dw196_4 2 rfl)
theorem dX9_sharesIt_67 : DE cX9_sharesIt 67 (.iload_n 1) 1 := dop_27 (dn_w dw196_4 3 rfl)
theorem dX9_sharesIt_68 : DE cX9_sharesIt 68 (.invokevirtual 313) 3 := dop_182 (dn_w dw196_4 4 rfl) rfl
theorem dX9_sharesIt_71 : DE cX9_sharesIt 71 (.ireturn) 1 := dop_172 (dn_w dw196_4 7 rfl)
noncomputable def dt197_1 : List Nat := 172 :: []
noncomputable def dt197_0 : List Nat := 42 :: 16 :: 13 :: 182 :: 1 :: 30 :: 42 :: 27 :: 182 :: 1 :: 60 :: 42 :: 180 :: 1 :: 51 :: 130 :: dt197_1
theorem dw197_0 : dn cX9_plainTells 0 = dt197_0 := by decide +kernel
theorem dw197_1 : dn cX9_plainTells 16 = dt197_1 := dn_w dw197_0 16 rfl
theorem dX9_plainTells_0 : DE cX9_plainTells 0 (.aload_n 0) 1 := dop_42 (dn_w dw197_0 0 rfl)
theorem dX9_plainTells_1 : DE cX9_plainTells 1 (.bipush 13) 2 := dop_16 (dn_w dw197_0 1 rfl) rfl
theorem dX9_plainTells_3 : DE cX9_plainTells 3 (.invokevirtual 286) 3 := dop_182 (dn_w dw197_0 3 rfl) rfl
theorem dX9_plainTells_6 : DE cX9_plainTells 6 (.aload_n 0) 1 := dop_42 (dn_w dw197_0 6 rfl)
theorem dX9_plainTells_7 : DE cX9_plainTells 7 (.iload_n 1) 1 := dop_27 (dn_w dw197_0 7 rfl)
theorem dX9_plainTells_8 : DE cX9_plainTells 8 (.invokevirtual 316) 3 := dop_182 (dn_w dw197_0 8 rfl) rfl
theorem dX9_plainTells_11 : DE cX9_plainTells 11 (.aload_n 0) 1 := dop_42 (dn_w dw197_0 11 rfl)
theorem dX9_plainTells_12 : DE cX9_plainTells 12 (.getfield 307) 3 := dop_180 (dn_w dw197_0 12 rfl) rfl
theorem dX9_plainTells_15 : DE cX9_plainTells 15 (.ixor) 1 := dop_130 (dn_w dw197_0 15 rfl)
theorem dX9_plainTells_16 : DE cX9_plainTells 16 (.ireturn) 1 := dop_172 (dn_w dw197_1 0 rfl)
noncomputable def dt198_4 : List Nat := 1 :: 63 :: 172 :: []
noncomputable def dt198_3 : List Nat := 16 :: 60 :: 182 :: 1 :: 30 :: 42 :: 27 :: 182 :: 1 :: 63 :: 5 :: 104 :: 172 :: 42 :: 27 :: 182 :: dt198_4
noncomputable def dt198_2 : List Nat := 1 :: 33 :: 182 :: 1 :: 66 :: 96 :: 172 :: 42 :: 180 :: 1 :: 39 :: 6 :: 160 :: 0 :: 17 :: 42 :: dt198_3
noncomputable def dt198_1 : List Nat := 42 :: 16 :: 31 :: 182 :: 1 :: 30 :: 42 :: 27 :: 182 :: 1 :: 63 :: 61 :: 28 :: 42 :: 42 :: 180 :: dt198_2
noncomputable def dt198_0 : List Nat := 42 :: 180 :: 1 :: 39 :: 5 :: 159 :: 0 :: 11 :: 42 :: 180 :: 1 :: 39 :: 8 :: 160 :: 0 :: 26 :: dt198_1
theorem dw198_0 : dn cX9_tellsIt 0 = dt198_0 := by decide +kernel
theorem dw198_1 : dn cX9_tellsIt 16 = dt198_1 := dn_w dw198_0 16 rfl
theorem dw198_2 : dn cX9_tellsIt 32 = dt198_2 := dn_w dw198_1 16 rfl
theorem dw198_3 : dn cX9_tellsIt 48 = dt198_3 := dn_w dw198_2 16 rfl
theorem dw198_4 : dn cX9_tellsIt 64 = dt198_4 := dn_w dw198_3 16 rfl
theorem dX9_tellsIt_0 : DE cX9_tellsIt 0 (.aload_n 0) 1 := dop_42 (dn_w dw198_0 0 rfl)
theorem dX9_tellsIt_1 : DE cX9_tellsIt 1 (.getfield 295) 3 := dop_180 (dn_w dw198_0 1 rfl) rfl
theorem dX9_tellsIt_4 : DE cX9_tellsIt 4 (.iconst 2) 1 := dop_5 (dn_w dw198_0 4 rfl)
theorem dX9_tellsIt_5 : DE cX9_tellsIt 5 (.if_icmp .eq 11) 3 := dop_159 (dn_w dw198_0 5 rfl) rfl
theorem dX9_tellsIt_8 : DE cX9_tellsIt 8 (.aload_n 0) 1 := dop_42 (dn_w dw198_0 8 rfl)
theorem dX9_tellsIt_9 : DE cX9_tellsIt 9 (.getfield 295) 3 := dop_180 (dn_w dw198_0 9 rfl) rfl
theorem dX9_tellsIt_12 : DE cX9_tellsIt 12 (.iconst 5) 1 := dop_8 (dn_w dw198_0 12 rfl)
theorem dX9_tellsIt_13 : DE cX9_tellsIt 13 (.if_icmp .ne 26) 3 := dop_160 (dn_w dw198_0 13 rfl) rfl
theorem dX9_tellsIt_16 : DE cX9_tellsIt 16 (.aload_n 0) 1 := dop_42 (dn_w dw198_1 0 rfl)
theorem dX9_tellsIt_17 : DE cX9_tellsIt 17 (.bipush 31) 2 := dop_16 (dn_w dw198_1 1 rfl) rfl
theorem dX9_tellsIt_19 : DE cX9_tellsIt 19 (.invokevirtual 286) 3 := dop_182 (dn_w dw198_1 3 rfl) rfl
theorem dX9_tellsIt_22 : DE cX9_tellsIt 22 (.aload_n 0) 1 := dop_42 (dn_w dw198_1 6 rfl)
theorem dX9_tellsIt_23 : DE cX9_tellsIt 23 (.iload_n 1) 1 := dop_27 (dn_w dw198_1 7 rfl)
theorem dX9_tellsIt_24 : DE cX9_tellsIt 24 (.invokevirtual 319) 3 := dop_182 (dn_w dw198_1 8 rfl) rfl
theorem dX9_tellsIt_27 : DE cX9_tellsIt 27 (.istore_n 2) 1 := dop_61 (dn_w dw198_1 11 rfl)
theorem dX9_tellsIt_28 : DE cX9_tellsIt 28 (.iload_n 2) 1 := dop_28 (dn_w dw198_1 12 rfl)
theorem dX9_tellsIt_29 : DE cX9_tellsIt 29 (.aload_n 0) 1 := dop_42 (dn_w dw198_1 13 rfl)
theorem dX9_tellsIt_30 : DE cX9_tellsIt 30 (.aload_n 0) 1 := dop_42 (dn_w dw198_1 14 rfl)
theorem dX9_tellsIt_31 : DE cX9_tellsIt 31 (.getfield 289) 3 := dop_180 (dn_w dw198_1 15 rfl) rfl
theorem dX9_tellsIt_34 : DE cX9_tellsIt 34 (.invokevirtual 322) 3 := dop_182 (dn_w dw198_2 2 rfl) rfl
theorem dX9_tellsIt_37 : DE cX9_tellsIt 37 (.iadd) 1 := dop_96 (dn_w dw198_2 5 rfl)
theorem dX9_tellsIt_38 : DE cX9_tellsIt 38 (.ireturn) 1 := dop_172 (dn_w dw198_2 6 rfl)
theorem dX9_tellsIt_39 : DE cX9_tellsIt 39 (.aload_n 0) 1 := dop_42 (dn_w dw198_2 7 rfl)
theorem dX9_tellsIt_40 : DE cX9_tellsIt 40 (.getfield 295) 3 := dop_180 (dn_w dw198_2 8 rfl) rfl
theorem dX9_tellsIt_43 : DE cX9_tellsIt 43 (.iconst 3) 1 := dop_6 (dn_w dw198_2 11 rfl)
theorem dX9_tellsIt_44 : DE cX9_tellsIt 44 (.if_icmp .ne 17) 3 := dop_160 (dn_w dw198_2 12 rfl) rfl
theorem dX9_tellsIt_47 : DE cX9_tellsIt 47 (.aload_n 0) 1 := dop_42 (dn_w dw198_2 15 rfl)
theorem dX9_tellsIt_48 : DE cX9_tellsIt 48 (.bipush 60) 2 := dop_16 (dn_w dw198_3 0 rfl) rfl
theorem dX9_tellsIt_50 : DE cX9_tellsIt 50 (.invokevirtual 286) 3 := dop_182 (dn_w dw198_3 2 rfl) rfl
theorem dX9_tellsIt_53 : DE cX9_tellsIt 53 (.aload_n 0) 1 := dop_42 (dn_w dw198_3 5 rfl)
theorem dX9_tellsIt_54 : DE cX9_tellsIt 54 (.iload_n 1) 1 := dop_27 (dn_w dw198_3 6 rfl)
theorem dX9_tellsIt_55 : DE cX9_tellsIt 55 (.invokevirtual 319) 3 := dop_182 (dn_w dw198_3 7 rfl) rfl
theorem dX9_tellsIt_58 : DE cX9_tellsIt 58 (.iconst 2) 1 := dop_5 (dn_w dw198_3 10 rfl)
theorem dX9_tellsIt_59 : DE cX9_tellsIt 59 (.imul) 1 := dop_104 (dn_w dw198_3 11 rfl)
theorem dX9_tellsIt_60 : DE cX9_tellsIt 60 (.ireturn) 1 := dop_172 (dn_w dw198_3 12 rfl)
theorem dX9_tellsIt_61 : DE cX9_tellsIt 61 (.aload_n 0) 1 := dop_42 (dn_w dw198_3 13 rfl)
theorem dX9_tellsIt_62 : DE cX9_tellsIt 62 (.iload_n 1) 1 := dop_27 (dn_w dw198_3 14 rfl)
theorem dX9_tellsIt_63 : DE cX9_tellsIt 63 (.invokevirtual 319) 3 := dop_182 (dn_w dw198_3 15 rfl) rfl
theorem dX9_tellsIt_66 : DE cX9_tellsIt 66 (.ireturn) 1 := dop_172 (dn_w dw198_4 2 rfl)
noncomputable def dt199_8 : List Nat := 0 :: 8 :: 16 :: 241 :: 167 :: 0 :: 5 :: 21 :: 5 :: 172 :: []
noncomputable def dt199_7 : List Nat := 66 :: 167 :: 0 :: 8 :: 42 :: 29 :: 182 :: 1 :: 69 :: 54 :: 5 :: 42 :: 180 :: 1 :: 54 :: 153 :: dt199_8
noncomputable def dt199_6 : List Nat := 29 :: 182 :: 1 :: 60 :: 167 :: 0 :: 21 :: 28 :: 5 :: 160 :: 0 :: 11 :: 42 :: 29 :: 182 :: 1 :: dt199_7
noncomputable def dt199_5 : List Nat := 0 :: 11 :: 42 :: 29 :: 182 :: 1 :: 45 :: 167 :: 0 :: 34 :: 28 :: 4 :: 160 :: 0 :: 11 :: 42 :: dt199_6
noncomputable def dt199_4 : List Nat := 1 :: 33 :: 4 :: 182 :: 0 :: 209 :: 181 :: 1 :: 51 :: 42 :: 3 :: 181 :: 1 :: 54 :: 28 :: 154 :: dt199_5
noncomputable def dt199_3 : List Nat := 1 :: 39 :: 42 :: 42 :: 180 :: 0 :: 72 :: 27 :: 46 :: 181 :: 1 :: 33 :: 42 :: 42 :: 42 :: 180 :: dt199_4
noncomputable def dt199_2 : List Nat := 21 :: 4 :: 3 :: 8 :: 184 :: 0 :: 87 :: 154 :: 0 :: 5 :: 3 :: 172 :: 42 :: 21 :: 4 :: 181 :: dt199_3
noncomputable def dt199_1 : List Nat := 21 :: 167 :: 0 :: 4 :: 2 :: 54 :: 4 :: 28 :: 3 :: 6 :: 184 :: 0 :: 87 :: 153 :: 0 :: 13 :: dt199_2
noncomputable def dt199_0 : List Nat := 42 :: 3 :: 181 :: 1 :: 27 :: 27 :: 184 :: 1 :: 10 :: 153 :: 0 :: 11 :: 42 :: 27 :: 182 :: 1 :: dt199_1
theorem dw199_0 : dn cX9_act 0 = dt199_0 := by decide +kernel
theorem dw199_1 : dn cX9_act 16 = dt199_1 := dn_w dw199_0 16 rfl
theorem dw199_2 : dn cX9_act 32 = dt199_2 := dn_w dw199_1 16 rfl
theorem dw199_3 : dn cX9_act 48 = dt199_3 := dn_w dw199_2 16 rfl
theorem dw199_4 : dn cX9_act 64 = dt199_4 := dn_w dw199_3 16 rfl
theorem dw199_5 : dn cX9_act 80 = dt199_5 := dn_w dw199_4 16 rfl
theorem dw199_6 : dn cX9_act 96 = dt199_6 := dn_w dw199_5 16 rfl
theorem dw199_7 : dn cX9_act 112 = dt199_7 := dn_w dw199_6 16 rfl
theorem dw199_8 : dn cX9_act 128 = dt199_8 := dn_w dw199_7 16 rfl
theorem dX9_act_0 : DE cX9_act 0 (.aload_n 0) 1 := dop_42 (dn_w dw199_0 0 rfl)
theorem dX9_act_1 : DE cX9_act 1 (.iconst 0) 1 := dop_3 (dn_w dw199_0 1 rfl)
theorem dX9_act_2 : DE cX9_act 2 (.putfield 283) 3 := dop_181 (dn_w dw199_0 2 rfl) rfl
theorem dX9_act_5 : DE cX9_act 5 (.iload_n 1) 1 := dop_27 (dn_w dw199_0 5 rfl)
theorem dX9_act_6 : DE cX9_act 6 (.invokestatic 266) 3 := dop_184 (dn_w dw199_0 6 rfl) rfl
theorem dX9_act_9 : DE cX9_act 9 (.ifCond .eq 11) 3 := dop_153 (dn_w dw199_0 9 rfl) rfl
theorem dX9_act_12 : DE cX9_act 12 (.aload_n 0) 1 := dop_42 (dn_w dw199_0 12 rfl)
theorem dX9_act_13 : DE cX9_act 13 (.iload_n 1) 1 := dop_27 (dn_w dw199_0 13 rfl)
theorem dX9_act_14 : DE cX9_act 14 (.invokevirtual 277) 3 := dop_182 (dn_w dw199_0 14 rfl) rfl
theorem dX9_act_17 : DE cX9_act 17 (.goto 4) 3 := dop_167 (dn_w dw199_1 1 rfl) rfl
theorem dX9_act_20 : DE cX9_act 20 (.iconst (-1)) 1 := dop_2 (dn_w dw199_1 4 rfl)
theorem dX9_act_21 : DE cX9_act 21 (.istore 4) 2 := dop_54 (dn_w dw199_1 5 rfl)
theorem dX9_act_23 : DE cX9_act 23 (.iload_n 2) 1 := dop_28 (dn_w dw199_1 7 rfl)
theorem dX9_act_24 : DE cX9_act 24 (.iconst 0) 1 := dop_3 (dn_w dw199_1 8 rfl)
theorem dX9_act_25 : DE cX9_act 25 (.iconst 3) 1 := dop_6 (dn_w dw199_1 9 rfl)
theorem dX9_act_26 : DE cX9_act 26 (.invokestatic 87) 3 := dop_184 (dn_w dw199_1 10 rfl) rfl
theorem dX9_act_29 : DE cX9_act 29 (.ifCond .eq 13) 3 := dop_153 (dn_w dw199_1 13 rfl) rfl
theorem dX9_act_32 : DE cX9_act 32 (.iload 4) 2 := dop_21 (dn_w dw199_2 0 rfl)
theorem dX9_act_34 : DE cX9_act 34 (.iconst 0) 1 := dop_3 (dn_w dw199_2 2 rfl)
theorem dX9_act_35 : DE cX9_act 35 (.iconst 5) 1 := dop_8 (dn_w dw199_2 3 rfl)
theorem dX9_act_36 : DE cX9_act 36 (.invokestatic 87) 3 := dop_184 (dn_w dw199_2 4 rfl) rfl
theorem dX9_act_39 : DE cX9_act 39 (.ifCond .ne 5) 3 := dop_154 (dn_w dw199_2 7 rfl) rfl
theorem dX9_act_42 : DE cX9_act 42 (.iconst 0) 1 := dop_3 (dn_w dw199_2 10 rfl)
theorem dX9_act_43 : DE cX9_act 43 (.ireturn) 1 := dop_172 (dn_w dw199_2 11 rfl)
theorem dX9_act_44 : DE cX9_act 44 (.aload_n 0) 1 := dop_42 (dn_w dw199_2 12 rfl)
theorem dX9_act_45 : DE cX9_act 45 (.iload 4) 2 := dop_21 (dn_w dw199_2 13 rfl)
theorem dX9_act_47 : DE cX9_act 47 (.putfield 295) 3 := dop_181 (dn_w dw199_2 15 rfl) rfl
theorem dX9_act_50 : DE cX9_act 50 (.aload_n 0) 1 := dop_42 (dn_w dw199_3 2 rfl)
theorem dX9_act_51 : DE cX9_act 51 (.aload_n 0) 1 := dop_42 (dn_w dw199_3 3 rfl)
theorem dX9_act_52 : DE cX9_act 52 (.getfield 72) 3 := dop_180 (dn_w dw199_3 4 rfl) rfl
theorem dX9_act_55 : DE cX9_act 55 (.iload_n 1) 1 := dop_27 (dn_w dw199_3 7 rfl)
theorem dX9_act_56 : DE cX9_act 56 (.iaload) 1 := dop_46 (dn_w dw199_3 8 rfl)
theorem dX9_act_57 : DE cX9_act 57 (.putfield 289) 3 := dop_181 (dn_w dw199_3 9 rfl) rfl
theorem dX9_act_60 : DE cX9_act 60 (.aload_n 0) 1 := dop_42 (dn_w dw199_3 12 rfl)
theorem dX9_act_61 : DE cX9_act 61 (.aload_n 0) 1 := dop_42 (dn_w dw199_3 13 rfl)
theorem dX9_act_62 : DE cX9_act 62 (.aload_n 0) 1 := dop_42 (dn_w dw199_3 14 rfl)
theorem dX9_act_63 : DE cX9_act 63 (.getfield 289) 3 := dop_180 (dn_w dw199_3 15 rfl) rfl
theorem dX9_act_66 : DE cX9_act 66 (.iconst 1) 1 := dop_4 (dn_w dw199_4 2 rfl)
theorem dX9_act_67 : DE cX9_act 67 (.invokevirtual 209) 3 := dop_182 (dn_w dw199_4 3 rfl) rfl
theorem dX9_act_70 : DE cX9_act 70 (.putfield 307) 3 := dop_181 (dn_w dw199_4 6 rfl) rfl
theorem dX9_act_73 : DE cX9_act 73 (.aload_n 0) 1 := dop_42 (dn_w dw199_4 9 rfl)
theorem dX9_act_74 : DE cX9_act 74 (.iconst 0) 1 := dop_3 (dn_w dw199_4 10 rfl)
theorem dX9_act_75 : DE cX9_act 75 (.putfield 310) 3 := dop_181 (dn_w dw199_4 11 rfl) rfl
theorem dX9_act_78 : DE cX9_act 78 (.iload_n 2) 1 := dop_28 (dn_w dw199_4 14 rfl)
theorem dX9_act_79 : DE cX9_act 79 (.ifCond .ne 11) 3 := dop_154 (dn_w dw199_4 15 rfl) rfl
theorem dX9_act_82 : DE cX9_act 82 (.aload_n 0) 1 := dop_42 (dn_w dw199_5 2 rfl)
theorem dX9_act_83 : DE cX9_act 83 (.iload_n 3) 1 := dop_29 (dn_w dw199_5 3 rfl)
theorem dX9_act_84 : DE cX9_act 84 (.invokevirtual 301) 3 := dop_182 (dn_w dw199_5 4 rfl) rfl
theorem dX9_act_87 : DE cX9_act 87 (.goto 34) 3 := dop_167 (dn_w dw199_5 7 rfl) rfl
theorem dX9_act_90 : DE cX9_act 90 (.iload_n 2) 1 := dop_28 (dn_w dw199_5 10 rfl)
theorem dX9_act_91 : DE cX9_act 91 (.iconst 1) 1 := dop_4 (dn_w dw199_5 11 rfl)
theorem dX9_act_92 : DE cX9_act 92 (.if_icmp .ne 11) 3 := dop_160 (dn_w dw199_5 12 rfl) rfl
theorem dX9_act_95 : DE cX9_act 95 (.aload_n 0) 1 := dop_42 (dn_w dw199_5 15 rfl)
theorem dX9_act_96 : DE cX9_act 96 (.iload_n 3) 1 := dop_29 (dn_w dw199_6 0 rfl)
theorem dX9_act_97 : DE cX9_act 97 (.invokevirtual 316) 3 := dop_182 (dn_w dw199_6 1 rfl) rfl
theorem dX9_act_100 : DE cX9_act 100 (.goto 21) 3 := dop_167 (dn_w dw199_6 4 rfl) rfl
theorem dX9_act_103 : DE cX9_act 103 (.iload_n 2) 1 := dop_28 (dn_w dw199_6 7 rfl)
theorem dX9_act_104 : DE cX9_act 104 (.iconst 2) 1 := dop_5 (dn_w dw199_6 8 rfl)
theorem dX9_act_105 : DE cX9_act 105 (.if_icmp .ne 11) 3 := dop_160 (dn_w dw199_6 9 rfl) rfl
theorem dX9_act_108 : DE cX9_act 108 (.aload_n 0) 1 := dop_42 (dn_w dw199_6 12 rfl)
theorem dX9_act_109 : DE cX9_act 109 (.iload_n 3) 1 := dop_29 (dn_w dw199_6 13 rfl)
theorem dX9_act_110 : DE cX9_act 110 (.invokevirtual 322) 3 := dop_182 (dn_w dw199_6 14 rfl) rfl
theorem dX9_act_113 : DE cX9_act 113 (.goto 8) 3 := dop_167 (dn_w dw199_7 1 rfl) rfl
theorem dX9_act_116 : DE cX9_act 116 (.aload_n 0) 1 := dop_42 (dn_w dw199_7 4 rfl)
theorem dX9_act_117 : DE cX9_act 117 (.iload_n 3) 1 := dop_29 (dn_w dw199_7 5 rfl)
theorem dX9_act_118 : DE cX9_act 118 (.invokevirtual 325) 3 := dop_182 (dn_w dw199_7 6 rfl) rfl
theorem dX9_act_121 : DE cX9_act 121 (.istore 5) 2 := dop_54 (dn_w dw199_7 9 rfl)
theorem dX9_act_123 : DE cX9_act 123 (.aload_n 0) 1 := dop_42 (dn_w dw199_7 11 rfl)
theorem dX9_act_124 : DE cX9_act 124 (.getfield 310) 3 := dop_180 (dn_w dw199_7 12 rfl) rfl
theorem dX9_act_127 : DE cX9_act 127 (.ifCond .eq 8) 3 := dop_153 (dn_w dw199_7 15 rfl) rfl
theorem dX9_act_130 : DE cX9_act 130 (.bipush (-15)) 2 := dop_16 (dn_w dw199_8 2 rfl) rfl
theorem dX9_act_132 : DE cX9_act 132 (.goto 5) 3 := dop_167 (dn_w dw199_8 4 rfl) rfl
theorem dX9_act_135 : DE cX9_act 135 (.iload 5) 2 := dop_21 (dn_w dw199_8 7 rfl)
theorem dX9_act_137 : DE cX9_act 137 (.ireturn) 1 := dop_172 (dn_w dw199_8 9 rfl)
noncomputable def dt200_1 : List Nat := 0 :: 78 :: 27 :: 46 :: 167 :: 0 :: 5 :: 16 :: 253 :: 172 :: []
noncomputable def dt200_0 : List Nat := 27 :: 3 :: 42 :: 180 :: 1 :: 27 :: 4 :: 100 :: 184 :: 0 :: 87 :: 153 :: 0 :: 12 :: 42 :: 180 :: dt200_1
theorem dw200_0 : dn cX9_trace 0 = dt200_0 := by decide +kernel
theorem dw200_1 : dn cX9_trace 16 = dt200_1 := dn_w dw200_0 16 rfl
theorem dX9_trace_0 : DE cX9_trace 0 (.iload_n 1) 1 := dop_27 (dn_w dw200_0 0 rfl)
theorem dX9_trace_1 : DE cX9_trace 1 (.iconst 0) 1 := dop_3 (dn_w dw200_0 1 rfl)
theorem dX9_trace_2 : DE cX9_trace 2 (.aload_n 0) 1 := dop_42 (dn_w dw200_0 2 rfl)
theorem dX9_trace_3 : DE cX9_trace 3 (.getfield 283) 3 := dop_180 (dn_w dw200_0 3 rfl) rfl
theorem dX9_trace_6 : DE cX9_trace 6 (.iconst 1) 1 := dop_4 (dn_w dw200_0 6 rfl)
theorem dX9_trace_7 : DE cX9_trace 7 (.isub) 1 := dop_100 (dn_w dw200_0 7 rfl)
theorem dX9_trace_8 : DE cX9_trace 8 (.invokestatic 87) 3 := dop_184 (dn_w dw200_0 8 rfl) rfl
theorem dX9_trace_11 : DE cX9_trace 11 (.ifCond .eq 12) 3 := dop_153 (dn_w dw200_0 11 rfl) rfl
theorem dX9_trace_14 : DE cX9_trace 14 (.aload_n 0) 1 := dop_42 (dn_w dw200_0 14 rfl)
theorem dX9_trace_15 : DE cX9_trace 15 (.getfield 78) 3 := dop_180 (dn_w dw200_0 15 rfl) rfl
theorem dX9_trace_18 : DE cX9_trace 18 (.iload_n 1) 1 := dop_27 (dn_w dw200_1 2 rfl)
theorem dX9_trace_19 : DE cX9_trace 19 (.iaload) 1 := dop_46 (dn_w dw200_1 3 rfl)
theorem dX9_trace_20 : DE cX9_trace 20 (.goto 5) 3 := dop_167 (dn_w dw200_1 4 rfl) rfl
theorem dX9_trace_23 : DE cX9_trace 23 (.bipush (-3)) 2 := dop_16 (dn_w dw200_1 7 rfl) rfl
theorem dX9_trace_25 : DE cX9_trace 25 (.ireturn) 1 := dop_172 (dn_w dw200_1 9 rfl)
noncomputable def dt201_5 : List Nat := 180 :: 1 :: 27 :: 172 :: 2 :: 172 :: []
noncomputable def dt201_4 : List Nat := 167 :: 255 :: 235 :: 28 :: 172 :: 42 :: 180 :: 0 :: 199 :: 172 :: 42 :: 180 :: 0 :: 94 :: 172 :: 42 :: dt201_5
noncomputable def dt201_3 : List Nat := 21 :: 28 :: 42 :: 180 :: 0 :: 19 :: 29 :: 46 :: 184 :: 0 :: 244 :: 96 :: 61 :: 132 :: 3 :: 1 :: dt201_4
noncomputable def dt201_2 : List Nat := 0 :: 0 :: 0 :: 76 :: 42 :: 180 :: 0 :: 91 :: 172 :: 3 :: 62 :: 29 :: 16 :: 40 :: 162 :: 0 :: dt201_3
noncomputable def dt201_1 : List Nat := 0 :: 0 :: 0 :: 33 :: 0 :: 0 :: 0 :: 38 :: 0 :: 0 :: 0 :: 66 :: 0 :: 0 :: 0 :: 71 :: dt201_2
noncomputable def dt201_0 : List Nat := 3 :: 61 :: 27 :: 170 :: 0 :: 0 :: 0 :: 81 :: 0 :: 0 :: 0 :: 0 :: 0 :: 0 :: 0 :: 4 :: dt201_1
theorem dw201_0 : dn cX9_many 0 = dt201_0 := by decide +kernel
theorem dw201_1 : dn cX9_many 16 = dt201_1 := dn_w dw201_0 16 rfl
theorem dw201_2 : dn cX9_many 32 = dt201_2 := dn_w dw201_1 16 rfl
theorem dw201_3 : dn cX9_many 48 = dt201_3 := dn_w dw201_2 16 rfl
theorem dw201_4 : dn cX9_many 64 = dt201_4 := dn_w dw201_3 16 rfl
theorem dw201_5 : dn cX9_many 80 = dt201_5 := dn_w dw201_4 16 rfl
theorem dX9_many_0 : DE cX9_many 0 (.iconst 0) 1 := dop_3 (dn_w dw201_0 0 rfl)
theorem dX9_many_1 : DE cX9_many 1 (.istore_n 2) 1 := dop_61 (dn_w dw201_0 1 rfl)
theorem dX9_many_2 : DE cX9_many 2 (.iload_n 1) 1 := dop_27 (dn_w dw201_0 2 rfl)
theorem dX9_many_3 : decode cX9_many 3 = .ok (.tableswitch 81 0 4 #[33, 38, 66, 71, 76], 33) := by decide +kernel
theorem dX9_many_36 : DE cX9_many 36 (.aload_n 0) 1 := dop_42 (dn_w dw201_2 4 rfl)
theorem dX9_many_37 : DE cX9_many 37 (.getfield 91) 3 := dop_180 (dn_w dw201_2 5 rfl) rfl
theorem dX9_many_40 : DE cX9_many 40 (.ireturn) 1 := dop_172 (dn_w dw201_2 8 rfl)
theorem dX9_many_41 : DE cX9_many 41 (.iconst 0) 1 := dop_3 (dn_w dw201_2 9 rfl)
theorem dX9_many_42 : DE cX9_many 42 (.istore_n 3) 1 := dop_62 (dn_w dw201_2 10 rfl)
theorem dX9_many_43 : DE cX9_many 43 (.iload_n 3) 1 := dop_29 (dn_w dw201_2 11 rfl)
theorem dX9_many_44 : DE cX9_many 44 (.bipush 40) 2 := dop_16 (dn_w dw201_2 12 rfl) rfl
theorem dX9_many_46 : DE cX9_many 46 (.if_icmp .ge 21) 3 := dop_162 (dn_w dw201_2 14 rfl) rfl
theorem dX9_many_49 : DE cX9_many 49 (.iload_n 2) 1 := dop_28 (dn_w dw201_3 1 rfl)
theorem dX9_many_50 : DE cX9_many 50 (.aload_n 0) 1 := dop_42 (dn_w dw201_3 2 rfl)
theorem dX9_many_51 : DE cX9_many 51 (.getfield 19) 3 := dop_180 (dn_w dw201_3 3 rfl) rfl
theorem dX9_many_54 : DE cX9_many 54 (.iload_n 3) 1 := dop_29 (dn_w dw201_3 6 rfl)
theorem dX9_many_55 : DE cX9_many 55 (.iaload) 1 := dop_46 (dn_w dw201_3 7 rfl)
theorem dX9_many_56 : DE cX9_many 56 (.invokestatic 244) 3 := dop_184 (dn_w dw201_3 8 rfl) rfl
theorem dX9_many_59 : DE cX9_many 59 (.iadd) 1 := dop_96 (dn_w dw201_3 11 rfl)
theorem dX9_many_60 : DE cX9_many 60 (.istore_n 2) 1 := dop_61 (dn_w dw201_3 12 rfl)
theorem dX9_many_61 : DE cX9_many 61 (.iinc 3 1) 3 := dop_132 (dn_w dw201_3 13 rfl) rfl
theorem dX9_many_64 : DE cX9_many 64 (.goto (-21)) 3 := dop_167 (dn_w dw201_4 0 rfl) rfl
theorem dX9_many_67 : DE cX9_many 67 (.iload_n 2) 1 := dop_28 (dn_w dw201_4 3 rfl)
theorem dX9_many_68 : DE cX9_many 68 (.ireturn) 1 := dop_172 (dn_w dw201_4 4 rfl)
theorem dX9_many_69 : DE cX9_many 69 (.aload_n 0) 1 := dop_42 (dn_w dw201_4 5 rfl)
theorem dX9_many_70 : DE cX9_many 70 (.getfield 199) 3 := dop_180 (dn_w dw201_4 6 rfl) rfl
theorem dX9_many_73 : DE cX9_many 73 (.ireturn) 1 := dop_172 (dn_w dw201_4 9 rfl)
theorem dX9_many_74 : DE cX9_many 74 (.aload_n 0) 1 := dop_42 (dn_w dw201_4 10 rfl)
theorem dX9_many_75 : DE cX9_many 75 (.getfield 94) 3 := dop_180 (dn_w dw201_4 11 rfl) rfl
theorem dX9_many_78 : DE cX9_many 78 (.ireturn) 1 := dop_172 (dn_w dw201_4 14 rfl)
theorem dX9_many_79 : DE cX9_many 79 (.aload_n 0) 1 := dop_42 (dn_w dw201_4 15 rfl)
theorem dX9_many_80 : DE cX9_many 80 (.getfield 283) 3 := dop_180 (dn_w dw201_5 0 rfl) rfl
theorem dX9_many_83 : DE cX9_many 83 (.ireturn) 1 := dop_172 (dn_w dw201_5 3 rfl)
theorem dX9_many_84 : DE cX9_many 84 (.iconst (-1)) 1 := dop_2 (dn_w dw201_5 4 rfl)
theorem dX9_many_85 : DE cX9_many 85 (.ireturn) 1 := dop_172 (dn_w dw201_5 5 rfl)
noncomputable def dt202_3 : List Nat := 96 :: 181 :: 1 :: 72 :: 132 :: 4 :: 1 :: 167 :: 255 :: 204 :: 177 :: []
noncomputable def dt202_2 : List Nat := 42 :: 180 :: 0 :: 81 :: 42 :: 180 :: 1 :: 72 :: 46 :: 79 :: 42 :: 89 :: 180 :: 1 :: 72 :: 4 :: dt202_3
noncomputable def dt202_1 : List Nat := 81 :: 42 :: 180 :: 1 :: 72 :: 43 :: 21 :: 4 :: 46 :: 79 :: 167 :: 0 :: 16 :: 43 :: 21 :: 4 :: dt202_2
noncomputable def dt202_0 : List Nat := 3 :: 54 :: 4 :: 21 :: 4 :: 28 :: 162 :: 0 :: 52 :: 29 :: 153 :: 0 :: 19 :: 42 :: 180 :: 0 :: dt202_1
theorem dw202_0 : dn cX9_moveRow 0 = dt202_0 := by decide +kernel
theorem dw202_1 : dn cX9_moveRow 16 = dt202_1 := dn_w dw202_0 16 rfl
theorem dw202_2 : dn cX9_moveRow 32 = dt202_2 := dn_w dw202_1 16 rfl
theorem dw202_3 : dn cX9_moveRow 48 = dt202_3 := dn_w dw202_2 16 rfl
theorem dX9_moveRow_0 : DE cX9_moveRow 0 (.iconst 0) 1 := dop_3 (dn_w dw202_0 0 rfl)
theorem dX9_moveRow_1 : DE cX9_moveRow 1 (.istore 4) 2 := dop_54 (dn_w dw202_0 1 rfl)
theorem dX9_moveRow_3 : DE cX9_moveRow 3 (.iload 4) 2 := dop_21 (dn_w dw202_0 3 rfl)
theorem dX9_moveRow_5 : DE cX9_moveRow 5 (.iload_n 2) 1 := dop_28 (dn_w dw202_0 5 rfl)
theorem dX9_moveRow_6 : DE cX9_moveRow 6 (.if_icmp .ge 52) 3 := dop_162 (dn_w dw202_0 6 rfl) rfl
theorem dX9_moveRow_9 : DE cX9_moveRow 9 (.iload_n 3) 1 := dop_29 (dn_w dw202_0 9 rfl)
theorem dX9_moveRow_10 : DE cX9_moveRow 10 (.ifCond .eq 19) 3 := dop_153 (dn_w dw202_0 10 rfl) rfl
theorem dX9_moveRow_13 : DE cX9_moveRow 13 (.aload_n 0) 1 := dop_42 (dn_w dw202_0 13 rfl)
theorem dX9_moveRow_14 : DE cX9_moveRow 14 (.getfield 81) 3 := dop_180 (dn_w dw202_0 14 rfl) rfl
theorem dX9_moveRow_17 : DE cX9_moveRow 17 (.aload_n 0) 1 := dop_42 (dn_w dw202_1 1 rfl)
theorem dX9_moveRow_18 : DE cX9_moveRow 18 (.getfield 328) 3 := dop_180 (dn_w dw202_1 2 rfl) rfl
theorem dX9_moveRow_21 : DE cX9_moveRow 21 (.aload_n 1) 1 := dop_43 (dn_w dw202_1 5 rfl)
theorem dX9_moveRow_22 : DE cX9_moveRow 22 (.iload 4) 2 := dop_21 (dn_w dw202_1 6 rfl)
theorem dX9_moveRow_24 : DE cX9_moveRow 24 (.iaload) 1 := dop_46 (dn_w dw202_1 8 rfl)
theorem dX9_moveRow_25 : DE cX9_moveRow 25 (.iastore) 1 := dop_79 (dn_w dw202_1 9 rfl)
theorem dX9_moveRow_26 : DE cX9_moveRow 26 (.goto 16) 3 := dop_167 (dn_w dw202_1 10 rfl) rfl
theorem dX9_moveRow_29 : DE cX9_moveRow 29 (.aload_n 1) 1 := dop_43 (dn_w dw202_1 13 rfl)
theorem dX9_moveRow_30 : DE cX9_moveRow 30 (.iload 4) 2 := dop_21 (dn_w dw202_1 14 rfl)
theorem dX9_moveRow_32 : DE cX9_moveRow 32 (.aload_n 0) 1 := dop_42 (dn_w dw202_2 0 rfl)
theorem dX9_moveRow_33 : DE cX9_moveRow 33 (.getfield 81) 3 := dop_180 (dn_w dw202_2 1 rfl) rfl
theorem dX9_moveRow_36 : DE cX9_moveRow 36 (.aload_n 0) 1 := dop_42 (dn_w dw202_2 4 rfl)
theorem dX9_moveRow_37 : DE cX9_moveRow 37 (.getfield 328) 3 := dop_180 (dn_w dw202_2 5 rfl) rfl
theorem dX9_moveRow_40 : DE cX9_moveRow 40 (.iaload) 1 := dop_46 (dn_w dw202_2 8 rfl)
theorem dX9_moveRow_41 : DE cX9_moveRow 41 (.iastore) 1 := dop_79 (dn_w dw202_2 9 rfl)
theorem dX9_moveRow_42 : DE cX9_moveRow 42 (.aload_n 0) 1 := dop_42 (dn_w dw202_2 10 rfl)
theorem dX9_moveRow_43 : DE cX9_moveRow 43 (.dup) 1 := dop_89 (dn_w dw202_2 11 rfl)
theorem dX9_moveRow_44 : DE cX9_moveRow 44 (.getfield 328) 3 := dop_180 (dn_w dw202_2 12 rfl) rfl
theorem dX9_moveRow_47 : DE cX9_moveRow 47 (.iconst 1) 1 := dop_4 (dn_w dw202_2 15 rfl)
theorem dX9_moveRow_48 : DE cX9_moveRow 48 (.iadd) 1 := dop_96 (dn_w dw202_3 0 rfl)
theorem dX9_moveRow_49 : DE cX9_moveRow 49 (.putfield 328) 3 := dop_181 (dn_w dw202_3 1 rfl) rfl
theorem dX9_moveRow_52 : DE cX9_moveRow 52 (.iinc 4 1) 3 := dop_132 (dn_w dw202_3 4 rfl) rfl
theorem dX9_moveRow_55 : DE cX9_moveRow 55 (.goto (-52)) 3 := dop_167 (dn_w dw202_3 7 rfl) rfl
theorem dX9_moveRow_58 : DE cX9_moveRow 58 (.return_) 1 := dop_177 (dn_w dw202_3 10 rfl)
noncomputable def dt203_6 : List Nat := 27 :: 182 :: 1 :: 75 :: 177 :: []
noncomputable def dt203_5 : List Nat := 42 :: 180 :: 0 :: 22 :: 16 :: 40 :: 27 :: 182 :: 1 :: 75 :: 42 :: 42 :: 180 :: 0 :: 25 :: 7 :: dt203_6
noncomputable def dt203_4 : List Nat := 27 :: 182 :: 1 :: 75 :: 42 :: 42 :: 180 :: 0 :: 19 :: 16 :: 40 :: 27 :: 182 :: 1 :: 75 :: 42 :: dt203_5
noncomputable def dt203_3 : List Nat := 180 :: 0 :: 13 :: 16 :: 25 :: 27 :: 182 :: 1 :: 75 :: 42 :: 42 :: 180 :: 0 :: 16 :: 16 :: 40 :: dt203_4
noncomputable def dt203_2 : List Nat := 182 :: 1 :: 75 :: 42 :: 42 :: 180 :: 0 :: 7 :: 16 :: 32 :: 27 :: 182 :: 1 :: 75 :: 42 :: 42 :: dt203_3
noncomputable def dt203_1 : List Nat := 180 :: 0 :: 84 :: 4 :: 42 :: 180 :: 0 :: 34 :: 79 :: 42 :: 42 :: 180 :: 0 :: 84 :: 5 :: 27 :: dt203_2
noncomputable def dt203_0 : List Nat := 42 :: 3 :: 181 :: 1 :: 72 :: 42 :: 180 :: 0 :: 84 :: 3 :: 42 :: 180 :: 0 :: 91 :: 79 :: 42 :: dt203_1
theorem dw203_0 : dn cX9_moveAll 0 = dt203_0 := by decide +kernel
theorem dw203_1 : dn cX9_moveAll 16 = dt203_1 := dn_w dw203_0 16 rfl
theorem dw203_2 : dn cX9_moveAll 32 = dt203_2 := dn_w dw203_1 16 rfl
theorem dw203_3 : dn cX9_moveAll 48 = dt203_3 := dn_w dw203_2 16 rfl
theorem dw203_4 : dn cX9_moveAll 64 = dt203_4 := dn_w dw203_3 16 rfl
theorem dw203_5 : dn cX9_moveAll 80 = dt203_5 := dn_w dw203_4 16 rfl
theorem dw203_6 : dn cX9_moveAll 96 = dt203_6 := dn_w dw203_5 16 rfl
theorem dX9_moveAll_0 : DE cX9_moveAll 0 (.aload_n 0) 1 := dop_42 (dn_w dw203_0 0 rfl)
theorem dX9_moveAll_1 : DE cX9_moveAll 1 (.iconst 0) 1 := dop_3 (dn_w dw203_0 1 rfl)
theorem dX9_moveAll_2 : DE cX9_moveAll 2 (.putfield 328) 3 := dop_181 (dn_w dw203_0 2 rfl) rfl
theorem dX9_moveAll_5 : DE cX9_moveAll 5 (.aload_n 0) 1 := dop_42 (dn_w dw203_0 5 rfl)
theorem dX9_moveAll_6 : DE cX9_moveAll 6 (.getfield 84) 3 := dop_180 (dn_w dw203_0 6 rfl) rfl
theorem dX9_moveAll_9 : DE cX9_moveAll 9 (.iconst 0) 1 := dop_3 (dn_w dw203_0 9 rfl)
theorem dX9_moveAll_10 : DE cX9_moveAll 10 (.aload_n 0) 1 := dop_42 (dn_w dw203_0 10 rfl)
theorem dX9_moveAll_11 : DE cX9_moveAll 11 (.getfield 91) 3 := dop_180 (dn_w dw203_0 11 rfl) rfl
theorem dX9_moveAll_14 : DE cX9_moveAll 14 (.iastore) 1 := dop_79 (dn_w dw203_0 14 rfl)
theorem dX9_moveAll_15 : DE cX9_moveAll 15 (.aload_n 0) 1 := dop_42 (dn_w dw203_0 15 rfl)
theorem dX9_moveAll_16 : DE cX9_moveAll 16 (.getfield 84) 3 := dop_180 (dn_w dw203_1 0 rfl) rfl
theorem dX9_moveAll_19 : DE cX9_moveAll 19 (.iconst 1) 1 := dop_4 (dn_w dw203_1 3 rfl)
theorem dX9_moveAll_20 : DE cX9_moveAll 20 (.aload_n 0) 1 := dop_42 (dn_w dw203_1 4 rfl)
theorem dX9_moveAll_21 : DE cX9_moveAll 21 (.getfield 34) 3 := dop_180 (dn_w dw203_1 5 rfl) rfl
theorem dX9_moveAll_24 : DE cX9_moveAll 24 (.iastore) 1 := dop_79 (dn_w dw203_1 8 rfl)
theorem dX9_moveAll_25 : DE cX9_moveAll 25 (.aload_n 0) 1 := dop_42 (dn_w dw203_1 9 rfl)
theorem dX9_moveAll_26 : DE cX9_moveAll 26 (.aload_n 0) 1 := dop_42 (dn_w dw203_1 10 rfl)
theorem dX9_moveAll_27 : DE cX9_moveAll 27 (.getfield 84) 3 := dop_180 (dn_w dw203_1 11 rfl) rfl
theorem dX9_moveAll_30 : DE cX9_moveAll 30 (.iconst 2) 1 := dop_5 (dn_w dw203_1 14 rfl)
theorem dX9_moveAll_31 : DE cX9_moveAll 31 (.iload_n 1) 1 := dop_27 (dn_w dw203_1 15 rfl)
theorem dX9_moveAll_32 : DE cX9_moveAll 32 (.invokevirtual 331) 3 := dop_182 (dn_w dw203_2 0 rfl) rfl
theorem dX9_moveAll_35 : DE cX9_moveAll 35 (.aload_n 0) 1 := dop_42 (dn_w dw203_2 3 rfl)
theorem dX9_moveAll_36 : DE cX9_moveAll 36 (.aload_n 0) 1 := dop_42 (dn_w dw203_2 4 rfl)
theorem dX9_moveAll_37 : DE cX9_moveAll 37 (.getfield 7) 3 := dop_180 (dn_w dw203_2 5 rfl) rfl
theorem dX9_moveAll_40 : DE cX9_moveAll 40 (.bipush 32) 2 := dop_16 (dn_w dw203_2 8 rfl) rfl
theorem dX9_moveAll_42 : DE cX9_moveAll 42 (.iload_n 1) 1 := dop_27 (dn_w dw203_2 10 rfl)
theorem dX9_moveAll_43 : DE cX9_moveAll 43 (.invokevirtual 331) 3 := dop_182 (dn_w dw203_2 11 rfl) rfl
theorem dX9_moveAll_46 : DE cX9_moveAll 46 (.aload_n 0) 1 := dop_42 (dn_w dw203_2 14 rfl)
theorem dX9_moveAll_47 : DE cX9_moveAll 47 (.aload_n 0) 1 := dop_42 (dn_w dw203_2 15 rfl)
theorem dX9_moveAll_48 : DE cX9_moveAll 48 (.getfield 13) 3 := dop_180 (dn_w dw203_3 0 rfl) rfl
theorem dX9_moveAll_51 : DE cX9_moveAll 51 (.bipush 25) 2 := dop_16 (dn_w dw203_3 3 rfl) rfl
theorem dX9_moveAll_53 : DE cX9_moveAll 53 (.iload_n 1) 1 := dop_27 (dn_w dw203_3 5 rfl)
theorem dX9_moveAll_54 : DE cX9_moveAll 54 (.invokevirtual 331) 3 := dop_182 (dn_w dw203_3 6 rfl) rfl
theorem dX9_moveAll_57 : DE cX9_moveAll 57 (.aload_n 0) 1 := dop_42 (dn_w dw203_3 9 rfl)
theorem dX9_moveAll_58 : DE cX9_moveAll 58 (.aload_n 0) 1 := dop_42 (dn_w dw203_3 10 rfl)
theorem dX9_moveAll_59 : DE cX9_moveAll 59 (.getfield 16) 3 := dop_180 (dn_w dw203_3 11 rfl) rfl
theorem dX9_moveAll_62 : DE cX9_moveAll 62 (.bipush 40) 2 := dop_16 (dn_w dw203_3 14 rfl) rfl
theorem dX9_moveAll_64 : DE cX9_moveAll 64 (.iload_n 1) 1 := dop_27 (dn_w dw203_4 0 rfl)
theorem dX9_moveAll_65 : DE cX9_moveAll 65 (.invokevirtual 331) 3 := dop_182 (dn_w dw203_4 1 rfl) rfl
theorem dX9_moveAll_68 : DE cX9_moveAll 68 (.aload_n 0) 1 := dop_42 (dn_w dw203_4 4 rfl)
theorem dX9_moveAll_69 : DE cX9_moveAll 69 (.aload_n 0) 1 := dop_42 (dn_w dw203_4 5 rfl)
theorem dX9_moveAll_70 : DE cX9_moveAll 70 (.getfield 19) 3 := dop_180 (dn_w dw203_4 6 rfl) rfl
theorem dX9_moveAll_73 : DE cX9_moveAll 73 (.bipush 40) 2 := dop_16 (dn_w dw203_4 9 rfl) rfl
theorem dX9_moveAll_75 : DE cX9_moveAll 75 (.iload_n 1) 1 := dop_27 (dn_w dw203_4 11 rfl)
theorem dX9_moveAll_76 : DE cX9_moveAll 76 (.invokevirtual 331) 3 := dop_182 (dn_w dw203_4 12 rfl) rfl
theorem dX9_moveAll_79 : DE cX9_moveAll 79 (.aload_n 0) 1 := dop_42 (dn_w dw203_4 15 rfl)
theorem dX9_moveAll_80 : DE cX9_moveAll 80 (.aload_n 0) 1 := dop_42 (dn_w dw203_5 0 rfl)
theorem dX9_moveAll_81 : DE cX9_moveAll 81 (.getfield 22) 3 := dop_180 (dn_w dw203_5 1 rfl) rfl
theorem dX9_moveAll_84 : DE cX9_moveAll 84 (.bipush 40) 2 := dop_16 (dn_w dw203_5 4 rfl) rfl
theorem dX9_moveAll_86 : DE cX9_moveAll 86 (.iload_n 1) 1 := dop_27 (dn_w dw203_5 6 rfl)
theorem dX9_moveAll_87 : DE cX9_moveAll 87 (.invokevirtual 331) 3 := dop_182 (dn_w dw203_5 7 rfl) rfl
theorem dX9_moveAll_90 : DE cX9_moveAll 90 (.aload_n 0) 1 := dop_42 (dn_w dw203_5 10 rfl)
theorem dX9_moveAll_91 : DE cX9_moveAll 91 (.aload_n 0) 1 := dop_42 (dn_w dw203_5 11 rfl)
theorem dX9_moveAll_92 : DE cX9_moveAll 92 (.getfield 25) 3 := dop_180 (dn_w dw203_5 12 rfl) rfl
theorem dX9_moveAll_95 : DE cX9_moveAll 95 (.iconst 4) 1 := dop_7 (dn_w dw203_5 15 rfl)
theorem dX9_moveAll_96 : DE cX9_moveAll 96 (.iload_n 1) 1 := dop_27 (dn_w dw203_6 0 rfl)
theorem dX9_moveAll_97 : DE cX9_moveAll 97 (.invokevirtual 331) 3 := dop_182 (dn_w dw203_6 1 rfl) rfl
theorem dX9_moveAll_100 : DE cX9_moveAll 100 (.return_) 1 := dop_177 (dn_w dw203_6 4 rfl)
noncomputable def dt204_0 : List Nat := 42 :: 4 :: 182 :: 1 :: 79 :: 42 :: 4 :: 181 :: 1 :: 83 :: 4 :: 172 :: []
theorem dw204_0 : dn cX9_keep 0 = dt204_0 := by decide +kernel
theorem dX9_keep_0 : DE cX9_keep 0 (.aload_n 0) 1 := dop_42 (dn_w dw204_0 0 rfl)
theorem dX9_keep_1 : DE cX9_keep 1 (.iconst 1) 1 := dop_4 (dn_w dw204_0 1 rfl)
theorem dX9_keep_2 : DE cX9_keep 2 (.invokevirtual 335) 3 := dop_182 (dn_w dw204_0 2 rfl) rfl
theorem dX9_keep_5 : DE cX9_keep 5 (.aload_n 0) 1 := dop_42 (dn_w dw204_0 5 rfl)
theorem dX9_keep_6 : DE cX9_keep 6 (.iconst 1) 1 := dop_4 (dn_w dw204_0 6 rfl)
theorem dX9_keep_7 : DE cX9_keep 7 (.putfield 339) 3 := dop_181 (dn_w dw204_0 7 rfl) rfl
theorem dX9_keep_10 : DE cX9_keep 10 (.iconst 1) 1 := dop_4 (dn_w dw204_0 10 rfl)
theorem dX9_keep_11 : DE cX9_keep 11 (.ireturn) 1 := dop_172 (dn_w dw204_0 11 rfl)
noncomputable def dt205_2 : List Nat := 181 :: 0 :: 34 :: 42 :: 180 :: 0 :: 13 :: 3 :: 46 :: 172 :: []
noncomputable def dt205_1 : List Nat := 42 :: 180 :: 0 :: 84 :: 3 :: 46 :: 181 :: 0 :: 91 :: 42 :: 42 :: 180 :: 0 :: 84 :: 4 :: 46 :: dt205_2
noncomputable def dt205_0 : List Nat := 42 :: 180 :: 1 :: 83 :: 154 :: 0 :: 6 :: 16 :: 253 :: 172 :: 42 :: 3 :: 182 :: 1 :: 79 :: 42 :: dt205_1
theorem dw205_0 : dn cX9_again 0 = dt205_0 := by decide +kernel
theorem dw205_1 : dn cX9_again 16 = dt205_1 := dn_w dw205_0 16 rfl
theorem dw205_2 : dn cX9_again 32 = dt205_2 := dn_w dw205_1 16 rfl
theorem dX9_again_0 : DE cX9_again 0 (.aload_n 0) 1 := dop_42 (dn_w dw205_0 0 rfl)
theorem dX9_again_1 : DE cX9_again 1 (.getfield 339) 3 := dop_180 (dn_w dw205_0 1 rfl) rfl
theorem dX9_again_4 : DE cX9_again 4 (.ifCond .ne 6) 3 := dop_154 (dn_w dw205_0 4 rfl) rfl
theorem dX9_again_7 : DE cX9_again 7 (.bipush (-3)) 2 := dop_16 (dn_w dw205_0 7 rfl) rfl
theorem dX9_again_9 : DE cX9_again 9 (.ireturn) 1 := dop_172 (dn_w dw205_0 9 rfl)
theorem dX9_again_10 : DE cX9_again 10 (.aload_n 0) 1 := dop_42 (dn_w dw205_0 10 rfl)
theorem dX9_again_11 : DE cX9_again 11 (.iconst 0) 1 := dop_3 (dn_w dw205_0 11 rfl)
theorem dX9_again_12 : DE cX9_again 12 (.invokevirtual 335) 3 := dop_182 (dn_w dw205_0 12 rfl) rfl
theorem dX9_again_15 : DE cX9_again 15 (.aload_n 0) 1 := dop_42 (dn_w dw205_0 15 rfl)
theorem dX9_again_16 : DE cX9_again 16 (.aload_n 0) 1 := dop_42 (dn_w dw205_1 0 rfl)
theorem dX9_again_17 : DE cX9_again 17 (.getfield 84) 3 := dop_180 (dn_w dw205_1 1 rfl) rfl
theorem dX9_again_20 : DE cX9_again 20 (.iconst 0) 1 := dop_3 (dn_w dw205_1 4 rfl)
theorem dX9_again_21 : DE cX9_again 21 (.iaload) 1 := dop_46 (dn_w dw205_1 5 rfl)
theorem dX9_again_22 : DE cX9_again 22 (.putfield 91) 3 := dop_181 (dn_w dw205_1 6 rfl) rfl
theorem dX9_again_25 : DE cX9_again 25 (.aload_n 0) 1 := dop_42 (dn_w dw205_1 9 rfl)
theorem dX9_again_26 : DE cX9_again 26 (.aload_n 0) 1 := dop_42 (dn_w dw205_1 10 rfl)
theorem dX9_again_27 : DE cX9_again 27 (.getfield 84) 3 := dop_180 (dn_w dw205_1 11 rfl) rfl
theorem dX9_again_30 : DE cX9_again 30 (.iconst 1) 1 := dop_4 (dn_w dw205_1 14 rfl)
theorem dX9_again_31 : DE cX9_again 31 (.iaload) 1 := dop_46 (dn_w dw205_1 15 rfl)
theorem dX9_again_32 : DE cX9_again 32 (.putfield 34) 3 := dop_181 (dn_w dw205_2 0 rfl) rfl
theorem dX9_again_35 : DE cX9_again 35 (.aload_n 0) 1 := dop_42 (dn_w dw205_2 3 rfl)
theorem dX9_again_36 : DE cX9_again 36 (.getfield 13) 3 := dop_180 (dn_w dw205_2 4 rfl) rfl
theorem dX9_again_39 : DE cX9_again 39 (.iconst 0) 1 := dop_3 (dn_w dw205_2 7 rfl)
theorem dX9_again_40 : DE cX9_again 40 (.iaload) 1 := dop_46 (dn_w dw205_2 8 rfl)
theorem dX9_again_41 : DE cX9_again 41 (.ireturn) 1 := dop_172 (dn_w dw205_2 9 rfl)
noncomputable def dt206_3 : List Nat := 26 :: 16 :: 63 :: 126 :: 172 :: []
noncomputable def dt206_2 : List Nat := 126 :: 59 :: 26 :: 26 :: 16 :: 8 :: 124 :: 96 :: 59 :: 26 :: 26 :: 16 :: 16 :: 124 :: 96 :: 59 :: dt206_3
noncomputable def dt206_1 : List Nat := 5 :: 124 :: 19 :: 1 :: 10 :: 126 :: 96 :: 59 :: 26 :: 26 :: 7 :: 124 :: 96 :: 19 :: 1 :: 11 :: dt206_2
noncomputable def dt206_0 : List Nat := 26 :: 26 :: 4 :: 124 :: 19 :: 1 :: 9 :: 126 :: 100 :: 59 :: 26 :: 19 :: 1 :: 10 :: 126 :: 26 :: dt206_1
theorem dw206_0 : dn cJ6_bitCount_0f7a4 0 = dt206_0 := by decide +kernel
theorem dw206_1 : dn cJ6_bitCount_0f7a4 16 = dt206_1 := dn_w dw206_0 16 rfl
theorem dw206_2 : dn cJ6_bitCount_0f7a4 32 = dt206_2 := dn_w dw206_1 16 rfl
theorem dw206_3 : dn cJ6_bitCount_0f7a4 48 = dt206_3 := dn_w dw206_2 16 rfl
theorem dJ6_bitCount_0f7a4_0 : DE cJ6_bitCount_0f7a4 0 (.iload_n 0) 1 := dop_26 (dn_w dw206_0 0 rfl)
theorem dJ6_bitCount_0f7a4_1 : DE cJ6_bitCount_0f7a4 1 (.iload_n 0) 1 := dop_26 (dn_w dw206_0 1 rfl)
theorem dJ6_bitCount_0f7a4_2 : DE cJ6_bitCount_0f7a4 2 (.iconst 1) 1 := dop_4 (dn_w dw206_0 2 rfl)
theorem dJ6_bitCount_0f7a4_3 : DE cJ6_bitCount_0f7a4 3 (.iushr) 1 := dop_124 (dn_w dw206_0 3 rfl)
theorem dJ6_bitCount_0f7a4_4 : DE cJ6_bitCount_0f7a4 4 (.ldc_w 265) 3 := dop_19 (dn_w dw206_0 4 rfl) rfl
theorem dJ6_bitCount_0f7a4_7 : DE cJ6_bitCount_0f7a4 7 (.iand) 1 := dop_126 (dn_w dw206_0 7 rfl)
theorem dJ6_bitCount_0f7a4_8 : DE cJ6_bitCount_0f7a4 8 (.isub) 1 := dop_100 (dn_w dw206_0 8 rfl)
theorem dJ6_bitCount_0f7a4_9 : DE cJ6_bitCount_0f7a4 9 (.istore_n 0) 1 := dop_59 (dn_w dw206_0 9 rfl)
theorem dJ6_bitCount_0f7a4_10 : DE cJ6_bitCount_0f7a4 10 (.iload_n 0) 1 := dop_26 (dn_w dw206_0 10 rfl)
theorem dJ6_bitCount_0f7a4_11 : DE cJ6_bitCount_0f7a4 11 (.ldc_w 266) 3 := dop_19 (dn_w dw206_0 11 rfl) rfl
theorem dJ6_bitCount_0f7a4_14 : DE cJ6_bitCount_0f7a4 14 (.iand) 1 := dop_126 (dn_w dw206_0 14 rfl)
theorem dJ6_bitCount_0f7a4_15 : DE cJ6_bitCount_0f7a4 15 (.iload_n 0) 1 := dop_26 (dn_w dw206_0 15 rfl)
theorem dJ6_bitCount_0f7a4_16 : DE cJ6_bitCount_0f7a4 16 (.iconst 2) 1 := dop_5 (dn_w dw206_1 0 rfl)
theorem dJ6_bitCount_0f7a4_17 : DE cJ6_bitCount_0f7a4 17 (.iushr) 1 := dop_124 (dn_w dw206_1 1 rfl)
theorem dJ6_bitCount_0f7a4_18 : DE cJ6_bitCount_0f7a4 18 (.ldc_w 266) 3 := dop_19 (dn_w dw206_1 2 rfl) rfl
theorem dJ6_bitCount_0f7a4_21 : DE cJ6_bitCount_0f7a4 21 (.iand) 1 := dop_126 (dn_w dw206_1 5 rfl)
theorem dJ6_bitCount_0f7a4_22 : DE cJ6_bitCount_0f7a4 22 (.iadd) 1 := dop_96 (dn_w dw206_1 6 rfl)
theorem dJ6_bitCount_0f7a4_23 : DE cJ6_bitCount_0f7a4 23 (.istore_n 0) 1 := dop_59 (dn_w dw206_1 7 rfl)
theorem dJ6_bitCount_0f7a4_24 : DE cJ6_bitCount_0f7a4 24 (.iload_n 0) 1 := dop_26 (dn_w dw206_1 8 rfl)
theorem dJ6_bitCount_0f7a4_25 : DE cJ6_bitCount_0f7a4 25 (.iload_n 0) 1 := dop_26 (dn_w dw206_1 9 rfl)
theorem dJ6_bitCount_0f7a4_26 : DE cJ6_bitCount_0f7a4 26 (.iconst 4) 1 := dop_7 (dn_w dw206_1 10 rfl)
theorem dJ6_bitCount_0f7a4_27 : DE cJ6_bitCount_0f7a4 27 (.iushr) 1 := dop_124 (dn_w dw206_1 11 rfl)
theorem dJ6_bitCount_0f7a4_28 : DE cJ6_bitCount_0f7a4 28 (.iadd) 1 := dop_96 (dn_w dw206_1 12 rfl)
theorem dJ6_bitCount_0f7a4_29 : DE cJ6_bitCount_0f7a4 29 (.ldc_w 267) 3 := dop_19 (dn_w dw206_1 13 rfl) rfl
theorem dJ6_bitCount_0f7a4_32 : DE cJ6_bitCount_0f7a4 32 (.iand) 1 := dop_126 (dn_w dw206_2 0 rfl)
theorem dJ6_bitCount_0f7a4_33 : DE cJ6_bitCount_0f7a4 33 (.istore_n 0) 1 := dop_59 (dn_w dw206_2 1 rfl)
theorem dJ6_bitCount_0f7a4_34 : DE cJ6_bitCount_0f7a4 34 (.iload_n 0) 1 := dop_26 (dn_w dw206_2 2 rfl)
theorem dJ6_bitCount_0f7a4_35 : DE cJ6_bitCount_0f7a4 35 (.iload_n 0) 1 := dop_26 (dn_w dw206_2 3 rfl)
theorem dJ6_bitCount_0f7a4_36 : DE cJ6_bitCount_0f7a4 36 (.bipush 8) 2 := dop_16 (dn_w dw206_2 4 rfl) rfl
theorem dJ6_bitCount_0f7a4_38 : DE cJ6_bitCount_0f7a4 38 (.iushr) 1 := dop_124 (dn_w dw206_2 6 rfl)
theorem dJ6_bitCount_0f7a4_39 : DE cJ6_bitCount_0f7a4 39 (.iadd) 1 := dop_96 (dn_w dw206_2 7 rfl)
theorem dJ6_bitCount_0f7a4_40 : DE cJ6_bitCount_0f7a4 40 (.istore_n 0) 1 := dop_59 (dn_w dw206_2 8 rfl)
theorem dJ6_bitCount_0f7a4_41 : DE cJ6_bitCount_0f7a4 41 (.iload_n 0) 1 := dop_26 (dn_w dw206_2 9 rfl)
theorem dJ6_bitCount_0f7a4_42 : DE cJ6_bitCount_0f7a4 42 (.iload_n 0) 1 := dop_26 (dn_w dw206_2 10 rfl)
theorem dJ6_bitCount_0f7a4_43 : DE cJ6_bitCount_0f7a4 43 (.bipush 16) 2 := dop_16 (dn_w dw206_2 11 rfl) rfl
theorem dJ6_bitCount_0f7a4_45 : DE cJ6_bitCount_0f7a4 45 (.iushr) 1 := dop_124 (dn_w dw206_2 13 rfl)
theorem dJ6_bitCount_0f7a4_46 : DE cJ6_bitCount_0f7a4 46 (.iadd) 1 := dop_96 (dn_w dw206_2 14 rfl)
theorem dJ6_bitCount_0f7a4_47 : DE cJ6_bitCount_0f7a4 47 (.istore_n 0) 1 := dop_59 (dn_w dw206_2 15 rfl)
theorem dJ6_bitCount_0f7a4_48 : DE cJ6_bitCount_0f7a4 48 (.iload_n 0) 1 := dop_26 (dn_w dw206_3 0 rfl)
theorem dJ6_bitCount_0f7a4_49 : DE cJ6_bitCount_0f7a4 49 (.bipush 63) 2 := dop_16 (dn_w dw206_3 1 rfl) rfl
theorem dJ6_bitCount_0f7a4_51 : DE cJ6_bitCount_0f7a4 51 (.iand) 1 := dop_126 (dn_w dw206_3 3 rfl)
theorem dJ6_bitCount_0f7a4_52 : DE cJ6_bitCount_0f7a4 52 (.ireturn) 1 := dop_172 (dn_w dw206_3 4 rfl)
noncomputable def dt207_0 : List Nat := 26 :: 27 :: 161 :: 0 :: 7 :: 26 :: 167 :: 0 :: 4 :: 27 :: 172 :: []
theorem dw207_0 : dn cJ9_max_7cf53 0 = dt207_0 := by decide +kernel
theorem dJ9_max_7cf53_0 : DE cJ9_max_7cf53 0 (.iload_n 0) 1 := dop_26 (dn_w dw207_0 0 rfl)
theorem dJ9_max_7cf53_1 : DE cJ9_max_7cf53 1 (.iload_n 1) 1 := dop_27 (dn_w dw207_0 1 rfl)
theorem dJ9_max_7cf53_2 : DE cJ9_max_7cf53 2 (.if_icmp .lt 7) 3 := dop_161 (dn_w dw207_0 2 rfl) rfl
theorem dJ9_max_7cf53_5 : DE cJ9_max_7cf53 5 (.iload_n 0) 1 := dop_26 (dn_w dw207_0 5 rfl)
theorem dJ9_max_7cf53_6 : DE cJ9_max_7cf53 6 (.goto 4) 3 := dop_167 (dn_w dw207_0 6 rfl) rfl
theorem dJ9_max_7cf53_9 : DE cJ9_max_7cf53 9 (.iload_n 1) 1 := dop_27 (dn_w dw207_0 9 rfl)
theorem dJ9_max_7cf53_10 : DE cJ9_max_7cf53 10 (.ireturn) 1 := dop_172 (dn_w dw207_0 10 rfl)
noncomputable def dt208_0 : List Nat := 42 :: 180 :: 0 :: 9 :: 190 :: 42 :: 182 :: 1 :: 79 :: 122 :: 172 :: []
theorem dw208_0 : dn cJ0_length_8abf5 0 = dt208_0 := by decide +kernel
theorem dJ0_length_8abf5_0 : DE cJ0_length_8abf5 0 (.aload_n 0) 1 := dop_42 (dn_w dw208_0 0 rfl)
theorem dJ0_length_8abf5_1 : DE cJ0_length_8abf5 1 (.getfield 9) 3 := dop_180 (dn_w dw208_0 1 rfl) rfl
theorem dJ0_length_8abf5_4 : DE cJ0_length_8abf5 4 (.arraylength) 1 := dop_190 (dn_w dw208_0 4 rfl)
theorem dJ0_length_8abf5_5 : DE cJ0_length_8abf5 5 (.aload_n 0) 1 := dop_42 (dn_w dw208_0 5 rfl)
theorem dJ0_length_8abf5_6 : DE cJ0_length_8abf5 6 (.invokevirtual 335) 3 := dop_182 (dn_w dw208_0 6 rfl) rfl
theorem dJ0_length_8abf5_9 : DE cJ0_length_8abf5 9 (.ishr) 1 := dop_122 (dn_w dw208_0 9 rfl)
theorem dJ0_length_8abf5_10 : DE cJ0_length_8abf5 10 (.ireturn) 1 := dop_172 (dn_w dw208_0 10 rfl)
noncomputable def dt209_1 : List Nat := 42 :: 180 :: 0 :: 9 :: 27 :: 184 :: 1 :: 242 :: 172 :: []
noncomputable def dt209_0 : List Nat := 42 :: 182 :: 1 :: 236 :: 153 :: 0 :: 12 :: 42 :: 180 :: 0 :: 9 :: 27 :: 184 :: 1 :: 239 :: 172 :: dt209_1
theorem dw209_0 : dn cJ0_charAt_5068e 0 = dt209_0 := by decide +kernel
theorem dw209_1 : dn cJ0_charAt_5068e 16 = dt209_1 := dn_w dw209_0 16 rfl
theorem dJ0_charAt_5068e_0 : DE cJ0_charAt_5068e 0 (.aload_n 0) 1 := dop_42 (dn_w dw209_0 0 rfl)
theorem dJ0_charAt_5068e_1 : DE cJ0_charAt_5068e 1 (.invokevirtual 492) 3 := dop_182 (dn_w dw209_0 1 rfl) rfl
theorem dJ0_charAt_5068e_4 : DE cJ0_charAt_5068e 4 (.ifCond .eq 12) 3 := dop_153 (dn_w dw209_0 4 rfl) rfl
theorem dJ0_charAt_5068e_7 : DE cJ0_charAt_5068e 7 (.aload_n 0) 1 := dop_42 (dn_w dw209_0 7 rfl)
theorem dJ0_charAt_5068e_8 : DE cJ0_charAt_5068e 8 (.getfield 9) 3 := dop_180 (dn_w dw209_0 8 rfl) rfl
theorem dJ0_charAt_5068e_11 : DE cJ0_charAt_5068e 11 (.iload_n 1) 1 := dop_27 (dn_w dw209_0 11 rfl)
theorem dJ0_charAt_5068e_12 : DE cJ0_charAt_5068e 12 (.invokestatic 495) 3 := dop_184 (dn_w dw209_0 12 rfl) rfl
theorem dJ0_charAt_5068e_15 : DE cJ0_charAt_5068e 15 (.ireturn) 1 := dop_172 (dn_w dw209_0 15 rfl)
theorem dJ0_charAt_5068e_16 : DE cJ0_charAt_5068e 16 (.aload_n 0) 1 := dop_42 (dn_w dw209_1 0 rfl)
theorem dJ0_charAt_5068e_17 : DE cJ0_charAt_5068e 17 (.getfield 9) 3 := dop_180 (dn_w dw209_1 1 rfl) rfl
theorem dJ0_charAt_5068e_20 : DE cJ0_charAt_5068e 20 (.iload_n 1) 1 := dop_27 (dn_w dw209_1 4 rfl)
theorem dJ0_charAt_5068e_21 : DE cJ0_charAt_5068e 21 (.invokestatic 498) 3 := dop_184 (dn_w dw209_1 5 rfl) rfl
theorem dJ0_charAt_5068e_24 : DE cJ0_charAt_5068e 24 (.ireturn) 1 := dop_172 (dn_w dw209_1 8 rfl)
noncomputable def dt210_0 : List Nat := 178 :: 0 :: 38 :: 153 :: 0 :: 10 :: 42 :: 180 :: 0 :: 15 :: 167 :: 0 :: 4 :: 4 :: 172 :: []
theorem dw210_0 : dn cJ0_coder_7d493 0 = dt210_0 := by decide +kernel
theorem dJ0_coder_7d493_0 : DE cJ0_coder_7d493 0 (.getstatic 38) 3 := dop_178 (dn_w dw210_0 0 rfl) rfl
theorem dJ0_coder_7d493_3 : DE cJ0_coder_7d493 3 (.ifCond .eq 10) 3 := dop_153 (dn_w dw210_0 3 rfl) rfl
theorem dJ0_coder_7d493_6 : DE cJ0_coder_7d493 6 (.aload_n 0) 1 := dop_42 (dn_w dw210_0 6 rfl)
theorem dJ0_coder_7d493_7 : DE cJ0_coder_7d493 7 (.getfield 15) 3 := dop_180 (dn_w dw210_0 7 rfl) rfl
theorem dJ0_coder_7d493_10 : DE cJ0_coder_7d493 10 (.goto 4) 3 := dop_167 (dn_w dw210_0 10 rfl) rfl
theorem dJ0_coder_7d493_13 : DE cJ0_coder_7d493 13 (.iconst 1) 1 := dop_4 (dn_w dw210_0 13 rfl)
theorem dJ0_coder_7d493_14 : DE cJ0_coder_7d493 14 (.ireturn) 1 := dop_172 (dn_w dw210_0 14 rfl)
noncomputable def dt211_1 : List Nat := 4 :: 3 :: 172 :: []
noncomputable def dt211_0 : List Nat := 178 :: 0 :: 38 :: 153 :: 0 :: 14 :: 42 :: 180 :: 0 :: 15 :: 154 :: 0 :: 7 :: 4 :: 167 :: 0 :: dt211_1
theorem dw211_0 : dn cJ0_isLatin1_aae02 0 = dt211_0 := by decide +kernel
theorem dw211_1 : dn cJ0_isLatin1_aae02 16 = dt211_1 := dn_w dw211_0 16 rfl
theorem dJ0_isLatin1_aae02_0 : DE cJ0_isLatin1_aae02 0 (.getstatic 38) 3 := dop_178 (dn_w dw211_0 0 rfl) rfl
theorem dJ0_isLatin1_aae02_3 : DE cJ0_isLatin1_aae02 3 (.ifCond .eq 14) 3 := dop_153 (dn_w dw211_0 3 rfl) rfl
theorem dJ0_isLatin1_aae02_6 : DE cJ0_isLatin1_aae02 6 (.aload_n 0) 1 := dop_42 (dn_w dw211_0 6 rfl)
theorem dJ0_isLatin1_aae02_7 : DE cJ0_isLatin1_aae02 7 (.getfield 15) 3 := dop_180 (dn_w dw211_0 7 rfl) rfl
theorem dJ0_isLatin1_aae02_10 : DE cJ0_isLatin1_aae02 10 (.ifCond .ne 7) 3 := dop_154 (dn_w dw211_0 10 rfl) rfl
theorem dJ0_isLatin1_aae02_13 : DE cJ0_isLatin1_aae02 13 (.iconst 1) 1 := dop_4 (dn_w dw211_0 13 rfl)
theorem dJ0_isLatin1_aae02_14 : DE cJ0_isLatin1_aae02 14 (.goto 4) 3 := dop_167 (dn_w dw211_0 14 rfl) rfl
theorem dJ0_isLatin1_aae02_17 : DE cJ0_isLatin1_aae02 17 (.iconst 0) 1 := dop_3 (dn_w dw211_1 1 rfl)
theorem dJ0_isLatin1_aae02_18 : DE cJ0_isLatin1_aae02 18 (.ireturn) 1 := dop_172 (dn_w dw211_1 2 rfl)
noncomputable def dt212_0 : List Nat := 26 :: 27 :: 178 :: 4 :: 29 :: 184 :: 4 :: 35 :: 87 :: 177 :: []
theorem dw212_0 : dn cJ0_checkIndex_df160 0 = dt212_0 := by decide +kernel
theorem dJ0_checkIndex_df160_0 : DE cJ0_checkIndex_df160 0 (.iload_n 0) 1 := dop_26 (dn_w dw212_0 0 rfl)
theorem dJ0_checkIndex_df160_1 : DE cJ0_checkIndex_df160 1 (.iload_n 1) 1 := dop_27 (dn_w dw212_0 1 rfl)
theorem dJ0_checkIndex_df160_2 : DE cJ0_checkIndex_df160 2 (.getstatic 1053) 3 := dop_178 (dn_w dw212_0 2 rfl) rfl
theorem dJ0_checkIndex_df160_5 : DE cJ0_checkIndex_df160 5 (.invokestatic 1059) 3 := dop_184 (dn_w dw212_0 5 rfl) rfl
theorem dJ0_checkIndex_df160_8 : DE cJ0_checkIndex_df160 8 (.pop) 1 := dop_87 (dn_w dw212_0 8 rfl)
theorem dJ0_checkIndex_df160_9 : DE cJ0_checkIndex_df160 9 (.return_) 1 := dop_177 (dn_w dw212_0 9 rfl)
noncomputable def dt213_0 : List Nat := 27 :: 42 :: 190 :: 184 :: 0 :: 9 :: 42 :: 27 :: 51 :: 17 :: 0 :: 255 :: 126 :: 146 :: 172 :: []
theorem dw213_0 : dn cJ1_charAt_3b067 0 = dt213_0 := by decide +kernel
theorem dJ1_charAt_3b067_0 : DE cJ1_charAt_3b067 0 (.iload_n 1) 1 := dop_27 (dn_w dw213_0 0 rfl)
theorem dJ1_charAt_3b067_1 : DE cJ1_charAt_3b067 1 (.aload_n 0) 1 := dop_42 (dn_w dw213_0 1 rfl)
theorem dJ1_charAt_3b067_2 : DE cJ1_charAt_3b067 2 (.arraylength) 1 := dop_190 (dn_w dw213_0 2 rfl)
theorem dJ1_charAt_3b067_3 : DE cJ1_charAt_3b067 3 (.invokestatic 9) 3 := dop_184 (dn_w dw213_0 3 rfl) rfl
theorem dJ1_charAt_3b067_6 : DE cJ1_charAt_3b067 6 (.aload_n 0) 1 := dop_42 (dn_w dw213_0 6 rfl)
theorem dJ1_charAt_3b067_7 : DE cJ1_charAt_3b067 7 (.iload_n 1) 1 := dop_27 (dn_w dw213_0 7 rfl)
theorem dJ1_charAt_3b067_8 : DE cJ1_charAt_3b067 8 (.baload) 1 := dop_51 (dn_w dw213_0 8 rfl)
theorem dJ1_charAt_3b067_9 : DE cJ1_charAt_3b067 9 (.sipush 255) 3 := dop_17 (dn_w dw213_0 9 rfl) rfl
theorem dJ1_charAt_3b067_12 : DE cJ1_charAt_3b067 12 (.iand) 1 := dop_126 (dn_w dw213_0 12 rfl)
theorem dJ1_charAt_3b067_13 : DE cJ1_charAt_3b067 13 (.i2c) 1 := dop_146 (dn_w dw213_0 13 rfl)
theorem dJ1_charAt_3b067_14 : DE cJ1_charAt_3b067 14 (.ireturn) 1 := dop_172 (dn_w dw213_0 14 rfl)
noncomputable def dt214_3 : List Nat := 51 :: 17 :: 0 :: 255 :: 126 :: 178 :: 0 :: 63 :: 120 :: 128 :: 146 :: 172 :: []
noncomputable def dt214_2 : List Nat := 42 :: 27 :: 132 :: 1 :: 1 :: 51 :: 17 :: 0 :: 255 :: 126 :: 178 :: 0 :: 59 :: 120 :: 42 :: 27 :: dt214_3
noncomputable def dt214_1 : List Nat := 0 :: 13 :: 187 :: 0 :: 52 :: 89 :: 18 :: 54 :: 183 :: 0 :: 56 :: 191 :: 27 :: 4 :: 120 :: 60 :: dt214_2
noncomputable def dt214_0 : List Nat := 178 :: 0 :: 44 :: 154 :: 0 :: 25 :: 27 :: 155 :: 0 :: 11 :: 27 :: 42 :: 184 :: 0 :: 48 :: 161 :: dt214_1
theorem dw214_0 : dn cJ2_getChar_3b067 0 = dt214_0 := by decide +kernel
theorem dw214_1 : dn cJ2_getChar_3b067 16 = dt214_1 := dn_w dw214_0 16 rfl
theorem dw214_2 : dn cJ2_getChar_3b067 32 = dt214_2 := dn_w dw214_1 16 rfl
theorem dw214_3 : dn cJ2_getChar_3b067 48 = dt214_3 := dn_w dw214_2 16 rfl
theorem dJ2_getChar_3b067_0 : DE cJ2_getChar_3b067 0 (.getstatic 44) 3 := dop_178 (dn_w dw214_0 0 rfl) rfl
theorem dJ2_getChar_3b067_3 : DE cJ2_getChar_3b067 3 (.ifCond .ne 25) 3 := dop_154 (dn_w dw214_0 3 rfl) rfl
theorem dJ2_getChar_3b067_6 : DE cJ2_getChar_3b067 6 (.iload_n 1) 1 := dop_27 (dn_w dw214_0 6 rfl)
theorem dJ2_getChar_3b067_7 : DE cJ2_getChar_3b067 7 (.ifCond .lt 11) 3 := dop_155 (dn_w dw214_0 7 rfl) rfl
theorem dJ2_getChar_3b067_10 : DE cJ2_getChar_3b067 10 (.iload_n 1) 1 := dop_27 (dn_w dw214_0 10 rfl)
theorem dJ2_getChar_3b067_11 : DE cJ2_getChar_3b067 11 (.aload_n 0) 1 := dop_42 (dn_w dw214_0 11 rfl)
theorem dJ2_getChar_3b067_12 : DE cJ2_getChar_3b067 12 (.invokestatic 48) 3 := dop_184 (dn_w dw214_0 12 rfl) rfl
theorem dJ2_getChar_3b067_15 : DE cJ2_getChar_3b067 15 (.if_icmp .lt 13) 3 := dop_161 (dn_w dw214_0 15 rfl) rfl
theorem dJ2_getChar_3b067_18 : DE cJ2_getChar_3b067 18 (.new 52) 3 := dop_187 (dn_w dw214_1 2 rfl) rfl
theorem dJ2_getChar_3b067_21 : DE cJ2_getChar_3b067 21 (.dup) 1 := dop_89 (dn_w dw214_1 5 rfl)
theorem dJ2_getChar_3b067_22 : DE cJ2_getChar_3b067 22 (.ldc 54) 2 := dop_18 (dn_w dw214_1 6 rfl)
theorem dJ2_getChar_3b067_24 : DE cJ2_getChar_3b067 24 (.invokespecial 56) 3 := dop_183 (dn_w dw214_1 8 rfl) rfl
theorem dJ2_getChar_3b067_27 : DE cJ2_getChar_3b067 27 (.athrow) 1 := dop_191 (dn_w dw214_1 11 rfl)
theorem dJ2_getChar_3b067_28 : DE cJ2_getChar_3b067 28 (.iload_n 1) 1 := dop_27 (dn_w dw214_1 12 rfl)
theorem dJ2_getChar_3b067_29 : DE cJ2_getChar_3b067 29 (.iconst 1) 1 := dop_4 (dn_w dw214_1 13 rfl)
theorem dJ2_getChar_3b067_30 : DE cJ2_getChar_3b067 30 (.ishl) 1 := dop_120 (dn_w dw214_1 14 rfl)
theorem dJ2_getChar_3b067_31 : DE cJ2_getChar_3b067 31 (.istore_n 1) 1 := dop_60 (dn_w dw214_1 15 rfl)
theorem dJ2_getChar_3b067_32 : DE cJ2_getChar_3b067 32 (.aload_n 0) 1 := dop_42 (dn_w dw214_2 0 rfl)
theorem dJ2_getChar_3b067_33 : DE cJ2_getChar_3b067 33 (.iload_n 1) 1 := dop_27 (dn_w dw214_2 1 rfl)
theorem dJ2_getChar_3b067_34 : DE cJ2_getChar_3b067 34 (.iinc 1 1) 3 := dop_132 (dn_w dw214_2 2 rfl) rfl
theorem dJ2_getChar_3b067_37 : DE cJ2_getChar_3b067 37 (.baload) 1 := dop_51 (dn_w dw214_2 5 rfl)
theorem dJ2_getChar_3b067_38 : DE cJ2_getChar_3b067 38 (.sipush 255) 3 := dop_17 (dn_w dw214_2 6 rfl) rfl
theorem dJ2_getChar_3b067_41 : DE cJ2_getChar_3b067 41 (.iand) 1 := dop_126 (dn_w dw214_2 9 rfl)
theorem dJ2_getChar_3b067_42 : DE cJ2_getChar_3b067 42 (.getstatic 59) 3 := dop_178 (dn_w dw214_2 10 rfl) rfl
theorem dJ2_getChar_3b067_45 : DE cJ2_getChar_3b067 45 (.ishl) 1 := dop_120 (dn_w dw214_2 13 rfl)
theorem dJ2_getChar_3b067_46 : DE cJ2_getChar_3b067 46 (.aload_n 0) 1 := dop_42 (dn_w dw214_2 14 rfl)
theorem dJ2_getChar_3b067_47 : DE cJ2_getChar_3b067 47 (.iload_n 1) 1 := dop_27 (dn_w dw214_2 15 rfl)
theorem dJ2_getChar_3b067_48 : DE cJ2_getChar_3b067 48 (.baload) 1 := dop_51 (dn_w dw214_3 0 rfl)
theorem dJ2_getChar_3b067_49 : DE cJ2_getChar_3b067 49 (.sipush 255) 3 := dop_17 (dn_w dw214_3 1 rfl) rfl
theorem dJ2_getChar_3b067_52 : DE cJ2_getChar_3b067 52 (.iand) 1 := dop_126 (dn_w dw214_3 4 rfl)
theorem dJ2_getChar_3b067_53 : DE cJ2_getChar_3b067 53 (.getstatic 63) 3 := dop_178 (dn_w dw214_3 5 rfl) rfl
theorem dJ2_getChar_3b067_56 : DE cJ2_getChar_3b067 56 (.ishl) 1 := dop_120 (dn_w dw214_3 8 rfl)
theorem dJ2_getChar_3b067_57 : DE cJ2_getChar_3b067 57 (.ior) 1 := dop_128 (dn_w dw214_3 9 rfl)
theorem dJ2_getChar_3b067_58 : DE cJ2_getChar_3b067 58 (.i2c) 1 := dop_146 (dn_w dw214_3 10 rfl)
theorem dJ2_getChar_3b067_59 : DE cJ2_getChar_3b067 59 (.ireturn) 1 := dop_172 (dn_w dw214_3 11 rfl)
noncomputable def dt215_0 : List Nat := 42 :: 190 :: 4 :: 122 :: 172 :: []
theorem dw215_0 : dn cJ2_length_9d52b 0 = dt215_0 := by decide +kernel
theorem dJ2_length_9d52b_0 : DE cJ2_length_9d52b 0 (.aload_n 0) 1 := dop_42 (dn_w dw215_0 0 rfl)
theorem dJ2_length_9d52b_1 : DE cJ2_length_9d52b 1 (.arraylength) 1 := dop_190 (dn_w dw215_0 1 rfl)
theorem dJ2_length_9d52b_2 : DE cJ2_length_9d52b 2 (.iconst 1) 1 := dop_4 (dn_w dw215_0 2 rfl)
theorem dJ2_length_9d52b_3 : DE cJ2_length_9d52b 3 (.ishr) 1 := dop_122 (dn_w dw215_0 3 rfl)
theorem dJ2_length_9d52b_4 : DE cJ2_length_9d52b 4 (.ireturn) 1 := dop_172 (dn_w dw215_0 4 rfl)
noncomputable def dt216_0 : List Nat := 27 :: 42 :: 184 :: 0 :: 67 :: 42 :: 27 :: 184 :: 0 :: 71 :: 172 :: []
theorem dw216_0 : dn cJ2_charAt_3b067 0 = dt216_0 := by decide +kernel
theorem dJ2_charAt_3b067_0 : DE cJ2_charAt_3b067 0 (.iload_n 1) 1 := dop_27 (dn_w dw216_0 0 rfl)
theorem dJ2_charAt_3b067_1 : DE cJ2_charAt_3b067 1 (.aload_n 0) 1 := dop_42 (dn_w dw216_0 1 rfl)
theorem dJ2_charAt_3b067_2 : DE cJ2_charAt_3b067 2 (.invokestatic 67) 3 := dop_184 (dn_w dw216_0 2 rfl) rfl
theorem dJ2_charAt_3b067_5 : DE cJ2_charAt_3b067 5 (.aload_n 0) 1 := dop_42 (dn_w dw216_0 5 rfl)
theorem dJ2_charAt_3b067_6 : DE cJ2_charAt_3b067 6 (.iload_n 1) 1 := dop_27 (dn_w dw216_0 6 rfl)
theorem dJ2_charAt_3b067_7 : DE cJ2_charAt_3b067 7 (.invokestatic 71) 3 := dop_184 (dn_w dw216_0 7 rfl) rfl
theorem dJ2_charAt_3b067_10 : DE cJ2_charAt_3b067 10 (.ireturn) 1 := dop_172 (dn_w dw216_0 10 rfl)
noncomputable def dt217_0 : List Nat := 26 :: 43 :: 184 :: 0 :: 48 :: 184 :: 1 :: 158 :: 177 :: []
theorem dw217_0 : dn cJ2_checkIndex_2214a 0 = dt217_0 := by decide +kernel
theorem dJ2_checkIndex_2214a_0 : DE cJ2_checkIndex_2214a 0 (.iload_n 0) 1 := dop_26 (dn_w dw217_0 0 rfl)
theorem dJ2_checkIndex_2214a_1 : DE cJ2_checkIndex_2214a 1 (.aload_n 1) 1 := dop_43 (dn_w dw217_0 1 rfl)
theorem dJ2_checkIndex_2214a_2 : DE cJ2_checkIndex_2214a 2 (.invokestatic 48) 3 := dop_184 (dn_w dw217_0 2 rfl) rfl
theorem dJ2_checkIndex_2214a_5 : DE cJ2_checkIndex_2214a 5 (.invokestatic 414) 3 := dop_184 (dn_w dw217_0 5 rfl) rfl
theorem dJ2_checkIndex_2214a_8 : DE cJ2_checkIndex_2214a 8 (.return_) 1 := dop_177 (dn_w dw217_0 8 rfl)
noncomputable def dt218_1 : List Nat := 26 :: 172 :: []
noncomputable def dt218_0 : List Nat := 26 :: 155 :: 0 :: 8 :: 26 :: 27 :: 161 :: 0 :: 10 :: 44 :: 26 :: 27 :: 184 :: 0 :: 95 :: 191 :: dt218_1
theorem dw218_0 : dn cJ3_checkIndex_8e157 0 = dt218_0 := by decide +kernel
theorem dw218_1 : dn cJ3_checkIndex_8e157 16 = dt218_1 := dn_w dw218_0 16 rfl
theorem dJ3_checkIndex_8e157_0 : DE cJ3_checkIndex_8e157 0 (.iload_n 0) 1 := dop_26 (dn_w dw218_0 0 rfl)
theorem dJ3_checkIndex_8e157_1 : DE cJ3_checkIndex_8e157 1 (.ifCond .lt 8) 3 := dop_155 (dn_w dw218_0 1 rfl) rfl
theorem dJ3_checkIndex_8e157_4 : DE cJ3_checkIndex_8e157 4 (.iload_n 0) 1 := dop_26 (dn_w dw218_0 4 rfl)
theorem dJ3_checkIndex_8e157_5 : DE cJ3_checkIndex_8e157 5 (.iload_n 1) 1 := dop_27 (dn_w dw218_0 5 rfl)
theorem dJ3_checkIndex_8e157_6 : DE cJ3_checkIndex_8e157 6 (.if_icmp .lt 10) 3 := dop_161 (dn_w dw218_0 6 rfl) rfl
theorem dJ3_checkIndex_8e157_9 : DE cJ3_checkIndex_8e157 9 (.aload_n 2) 1 := dop_44 (dn_w dw218_0 9 rfl)
theorem dJ3_checkIndex_8e157_10 : DE cJ3_checkIndex_8e157 10 (.iload_n 0) 1 := dop_26 (dn_w dw218_0 10 rfl)
theorem dJ3_checkIndex_8e157_11 : DE cJ3_checkIndex_8e157 11 (.iload_n 1) 1 := dop_27 (dn_w dw218_0 11 rfl)
theorem dJ3_checkIndex_8e157_12 : DE cJ3_checkIndex_8e157 12 (.invokestatic 95) 3 := dop_184 (dn_w dw218_0 12 rfl) rfl
theorem dJ3_checkIndex_8e157_15 : DE cJ3_checkIndex_8e157 15 (.athrow) 1 := dop_191 (dn_w dw218_0 15 rfl)
theorem dJ3_checkIndex_8e157_16 : DE cJ3_checkIndex_8e157 16 (.iload_n 0) 1 := dop_26 (dn_w dw218_1 0 rfl)
theorem dJ3_checkIndex_8e157_17 : DE cJ3_checkIndex_8e157 17 (.ireturn) 1 := dop_172 (dn_w dw218_1 1 rfl)
