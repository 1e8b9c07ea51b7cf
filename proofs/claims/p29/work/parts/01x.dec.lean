def dn (c : ByteArray) (p : Nat) : List Nat := (c.data.toList.map UInt8.toNat).drop p
theorem dn_w {c : ByteArray} {L : List Nat} {p q : Nat} (h : dn c p = L) (j : Nat) (e : p + j = q) : dn c q = L.drop j := by
  subst e; subst h; unfold dn; rw [List.drop_drop]
theorem dn_s {c : ByteArray} {p n : Nat} {r : List Nat} (h : dn c p = n :: r) : dn c (p + 1) = r := dn_w h 1 rfl
theorem dn_u1 {c : ByteArray} {p n : Nat} {r : List Nat} (h : dn c p = n :: r) : (Jvm.ClassFile.Reader.u1 : Jvm.ClassFile.Decoder Nat).runAt c p = .ok (n, p + 1) := by
  have hl : p < c.data.toList.length := by
    have e := congrArg List.length h
    unfold dn at e
    rw [List.length_drop, List.length_map, List.length_cons] at e
    omega
  have hs : p < c.size := hl
  have hb : (c[p]'hs).toNat = n := by
    have e : (c.data.toList.map UInt8.toNat)[p]? = some n := by
      have e2 := congrArg List.head? h
      unfold dn at e2
      rw [List.head?_drop] at e2; exact e2
    rw [List.getElem?_map, List.getElem?_eq_getElem hl] at e
    exact Option.some.inj e
  have e : (Jvm.ClassFile.Reader.u1 : Jvm.ClassFile.Decoder Nat).runAt c p = (if h : p < c.size then (do set (p + 1); pure (c[p]'h).toNat : Jvm.ClassFile.Decoder Nat) else throw (Jvm.ClassFile.HasTruncated.truncated p)) c p := rfl
  rw [e, dif_pos hs, ← hb]; rfl
theorem dn_bind {α β : Type} {m : Jvm.ClassFile.Decoder α} {F : α → Jvm.ClassFile.Decoder β} {c : ByteArray} {p q : Nat} {x : α} (h : m.runAt c p = .ok (x, q)) : (m >>= F).runAt c p = (F x).runAt c q := by
  show Except.bind (m.runAt c p) (fun a => (F a.1).runAt c a.2) = _
  rw [h]; rfl
theorem dn_map {α β : Type} {m : Jvm.ClassFile.Decoder α} {f : α → β} {c : ByteArray} {p q : Nat} {x : α} (h : m.runAt c p = .ok (x, q)) : (f <$> m).runAt c p = .ok (f x, q) := by
  show Except.bind (m.runAt c p) (fun a => Except.ok (f a.1, a.2)) = _
  rw [h]; rfl
theorem dn_k {c : ByteArray} {p n : Nat} {i : Jvm.ClassFile.Instr} (h : (Jvm.ClassFile.Decoder.instr p).runAt c p = .ok (i, p + n)) : decode c p = .ok (i, n) := by
  unfold decode; rw [h]
  show Except.ok (i, p + n - p) = _
  rw [Nat.add_sub_cancel_left]
theorem dn_s1 {c : ByteArray} {p n : Nat} {r : List Nat} (h : dn c p = n :: r) : (Jvm.ClassFile.Reader.s1 : Jvm.ClassFile.Decoder Int).runAt c p = .ok (Jvm.ClassFile.Reader.signed 8 n, p + 1) := dn_map (dn_u1 h)
theorem dn_u2 {c : ByteArray} {p a b : Nat} {r : List Nat} (h : dn c p = a :: b :: r) : (Jvm.ClassFile.Reader.u2 : Jvm.ClassFile.Decoder Nat).runAt c p = .ok (a * 256 + b, p + 2) := by
  unfold Jvm.ClassFile.Reader.u2
  refine (dn_bind (dn_u1 h)).trans ?_
  refine (dn_bind (dn_u1 (dn_s h))).trans ?_
  rfl
theorem dn_s2 {c : ByteArray} {p a b : Nat} {r : List Nat} (h : dn c p = a :: b :: r) : (Jvm.ClassFile.Reader.s2 : Jvm.ClassFile.Decoder Int).runAt c p = .ok (Jvm.ClassFile.Reader.signed 16 (a * 256 + b), p + 2) := dn_map (dn_u2 h)

theorem dop_2 {c : ByteArray} {p : Nat} {r : List Nat} (h : dn c p = 2 :: r) : decode c p = .ok (.iconst (-1), 1) := by
  refine dn_k ?_
  unfold Jvm.ClassFile.Decoder.instr
  refine (dn_bind (dn_u1 h)).trans ?_
  rfl
theorem dop_3 {c : ByteArray} {p : Nat} {r : List Nat} (h : dn c p = 3 :: r) : decode c p = .ok (.iconst 0, 1) := by
  refine dn_k ?_
  unfold Jvm.ClassFile.Decoder.instr
  refine (dn_bind (dn_u1 h)).trans ?_
  rfl
theorem dop_4 {c : ByteArray} {p : Nat} {r : List Nat} (h : dn c p = 4 :: r) : decode c p = .ok (.iconst 1, 1) := by
  refine dn_k ?_
  unfold Jvm.ClassFile.Decoder.instr
  refine (dn_bind (dn_u1 h)).trans ?_
  rfl
theorem dop_5 {c : ByteArray} {p : Nat} {r : List Nat} (h : dn c p = 5 :: r) : decode c p = .ok (.iconst 2, 1) := by
  refine dn_k ?_
  unfold Jvm.ClassFile.Decoder.instr
  refine (dn_bind (dn_u1 h)).trans ?_
  rfl
theorem dop_6 {c : ByteArray} {p : Nat} {r : List Nat} (h : dn c p = 6 :: r) : decode c p = .ok (.iconst 3, 1) := by
  refine dn_k ?_
  unfold Jvm.ClassFile.Decoder.instr
  refine (dn_bind (dn_u1 h)).trans ?_
  rfl
theorem dop_7 {c : ByteArray} {p : Nat} {r : List Nat} (h : dn c p = 7 :: r) : decode c p = .ok (.iconst 4, 1) := by
  refine dn_k ?_
  unfold Jvm.ClassFile.Decoder.instr
  refine (dn_bind (dn_u1 h)).trans ?_
  rfl
theorem dop_8 {c : ByteArray} {p : Nat} {r : List Nat} (h : dn c p = 8 :: r) : decode c p = .ok (.iconst 5, 1) := by
  refine dn_k ?_
  unfold Jvm.ClassFile.Decoder.instr
  refine (dn_bind (dn_u1 h)).trans ?_
  rfl
theorem dop_9 {c : ByteArray} {p : Nat} {r : List Nat} (h : dn c p = 9 :: r) : decode c p = .ok (.lconst 0, 1) := by
  refine dn_k ?_
  unfold Jvm.ClassFile.Decoder.instr
  refine (dn_bind (dn_u1 h)).trans ?_
  rfl
theorem dop_16 {c : ByteArray} {p a : Nat} {r : List Nat} {z : Int} (h : dn c p = 16 :: a :: r) (e : Jvm.ClassFile.Reader.signed 8 a = z) : decode c p = .ok (.bipush z, 2) := by
  refine dn_k ?_
  unfold Jvm.ClassFile.Decoder.instr
  refine (dn_bind (dn_u1 h)).trans ?_
  subst e
  refine (dn_bind (dn_s1 (dn_s h))).trans ?_
  rfl
theorem dop_17 {c : ByteArray} {p a b : Nat} {r : List Nat} {z : Int} (h : dn c p = 17 :: a :: b :: r) (e : Jvm.ClassFile.Reader.signed 16 (a * 256 + b) = z) : decode c p = .ok (.sipush z, 3) := by
  refine dn_k ?_
  unfold Jvm.ClassFile.Decoder.instr
  refine (dn_bind (dn_u1 h)).trans ?_
  subst e
  refine (dn_bind (dn_s2 (dn_s h))).trans ?_
  rfl
theorem dop_18 {c : ByteArray} {p a : Nat} {r : List Nat} (h : dn c p = 18 :: a :: r) : decode c p = .ok (.ldc a, 2) := by
  refine dn_k ?_
  unfold Jvm.ClassFile.Decoder.instr
  refine (dn_bind (dn_u1 h)).trans ?_
  refine (dn_bind (dn_u1 (dn_s h))).trans ?_
  rfl
theorem dop_19 {c : ByteArray} {p a b n : Nat} {r : List Nat} (h : dn c p = 19 :: a :: b :: r) (e : a * 256 + b = n) : decode c p = .ok (.ldc_w n, 3) := by
  refine dn_k ?_
  unfold Jvm.ClassFile.Decoder.instr
  refine (dn_bind (dn_u1 h)).trans ?_
  subst e
  refine (dn_bind (dn_u2 (dn_s h))).trans ?_
  rfl
theorem dop_20 {c : ByteArray} {p a b n : Nat} {r : List Nat} (h : dn c p = 20 :: a :: b :: r) (e : a * 256 + b = n) : decode c p = .ok (.ldc2_w n, 3) := by
  refine dn_k ?_
  unfold Jvm.ClassFile.Decoder.instr
  refine (dn_bind (dn_u1 h)).trans ?_
  subst e
  refine (dn_bind (dn_u2 (dn_s h))).trans ?_
  rfl
theorem dop_21 {c : ByteArray} {p a : Nat} {r : List Nat} (h : dn c p = 21 :: a :: r) : decode c p = .ok (.iload a, 2) := by
  refine dn_k ?_
  unfold Jvm.ClassFile.Decoder.instr
  refine (dn_bind (dn_u1 h)).trans ?_
  refine (dn_bind (dn_u1 (dn_s h))).trans ?_
  rfl
theorem dop_25 {c : ByteArray} {p a : Nat} {r : List Nat} (h : dn c p = 25 :: a :: r) : decode c p = .ok (.aload a, 2) := by
  refine dn_k ?_
  unfold Jvm.ClassFile.Decoder.instr
  refine (dn_bind (dn_u1 h)).trans ?_
  refine (dn_bind (dn_u1 (dn_s h))).trans ?_
  rfl
theorem dop_26 {c : ByteArray} {p : Nat} {r : List Nat} (h : dn c p = 26 :: r) : decode c p = .ok (.iload_n 0, 1) := by
  refine dn_k ?_
  unfold Jvm.ClassFile.Decoder.instr
  refine (dn_bind (dn_u1 h)).trans ?_
  rfl
theorem dop_27 {c : ByteArray} {p : Nat} {r : List Nat} (h : dn c p = 27 :: r) : decode c p = .ok (.iload_n 1, 1) := by
  refine dn_k ?_
  unfold Jvm.ClassFile.Decoder.instr
  refine (dn_bind (dn_u1 h)).trans ?_
  rfl
theorem dop_28 {c : ByteArray} {p : Nat} {r : List Nat} (h : dn c p = 28 :: r) : decode c p = .ok (.iload_n 2, 1) := by
  refine dn_k ?_
  unfold Jvm.ClassFile.Decoder.instr
  refine (dn_bind (dn_u1 h)).trans ?_
  rfl
theorem dop_29 {c : ByteArray} {p : Nat} {r : List Nat} (h : dn c p = 29 :: r) : decode c p = .ok (.iload_n 3, 1) := by
  refine dn_k ?_
  unfold Jvm.ClassFile.Decoder.instr
  refine (dn_bind (dn_u1 h)).trans ?_
  rfl
theorem dop_31 {c : ByteArray} {p : Nat} {r : List Nat} (h : dn c p = 31 :: r) : decode c p = .ok (.lload_n 1, 1) := by
  refine dn_k ?_
  unfold Jvm.ClassFile.Decoder.instr
  refine (dn_bind (dn_u1 h)).trans ?_
  rfl
theorem dop_42 {c : ByteArray} {p : Nat} {r : List Nat} (h : dn c p = 42 :: r) : decode c p = .ok (.aload_n 0, 1) := by
  refine dn_k ?_
  unfold Jvm.ClassFile.Decoder.instr
  refine (dn_bind (dn_u1 h)).trans ?_
  rfl
theorem dop_43 {c : ByteArray} {p : Nat} {r : List Nat} (h : dn c p = 43 :: r) : decode c p = .ok (.aload_n 1, 1) := by
  refine dn_k ?_
  unfold Jvm.ClassFile.Decoder.instr
  refine (dn_bind (dn_u1 h)).trans ?_
  rfl
theorem dop_44 {c : ByteArray} {p : Nat} {r : List Nat} (h : dn c p = 44 :: r) : decode c p = .ok (.aload_n 2, 1) := by
  refine dn_k ?_
  unfold Jvm.ClassFile.Decoder.instr
  refine (dn_bind (dn_u1 h)).trans ?_
  rfl
theorem dop_45 {c : ByteArray} {p : Nat} {r : List Nat} (h : dn c p = 45 :: r) : decode c p = .ok (.aload_n 3, 1) := by
  refine dn_k ?_
  unfold Jvm.ClassFile.Decoder.instr
  refine (dn_bind (dn_u1 h)).trans ?_
  rfl
theorem dop_46 {c : ByteArray} {p : Nat} {r : List Nat} (h : dn c p = 46 :: r) : decode c p = .ok (.iaload, 1) := by
  refine dn_k ?_
  unfold Jvm.ClassFile.Decoder.instr
  refine (dn_bind (dn_u1 h)).trans ?_
  rfl
theorem dop_47 {c : ByteArray} {p : Nat} {r : List Nat} (h : dn c p = 47 :: r) : decode c p = .ok (.laload, 1) := by
  refine dn_k ?_
  unfold Jvm.ClassFile.Decoder.instr
  refine (dn_bind (dn_u1 h)).trans ?_
  rfl
theorem dop_50 {c : ByteArray} {p : Nat} {r : List Nat} (h : dn c p = 50 :: r) : decode c p = .ok (.aaload, 1) := by
  refine dn_k ?_
  unfold Jvm.ClassFile.Decoder.instr
  refine (dn_bind (dn_u1 h)).trans ?_
  rfl
theorem dop_51 {c : ByteArray} {p : Nat} {r : List Nat} (h : dn c p = 51 :: r) : decode c p = .ok (.baload, 1) := by
  refine dn_k ?_
  unfold Jvm.ClassFile.Decoder.instr
  refine (dn_bind (dn_u1 h)).trans ?_
  rfl
theorem dop_54 {c : ByteArray} {p a : Nat} {r : List Nat} (h : dn c p = 54 :: a :: r) : decode c p = .ok (.istore a, 2) := by
  refine dn_k ?_
  unfold Jvm.ClassFile.Decoder.instr
  refine (dn_bind (dn_u1 h)).trans ?_
  refine (dn_bind (dn_u1 (dn_s h))).trans ?_
  rfl
theorem dop_58 {c : ByteArray} {p a : Nat} {r : List Nat} (h : dn c p = 58 :: a :: r) : decode c p = .ok (.astore a, 2) := by
  refine dn_k ?_
  unfold Jvm.ClassFile.Decoder.instr
  refine (dn_bind (dn_u1 h)).trans ?_
  refine (dn_bind (dn_u1 (dn_s h))).trans ?_
  rfl
theorem dop_59 {c : ByteArray} {p : Nat} {r : List Nat} (h : dn c p = 59 :: r) : decode c p = .ok (.istore_n 0, 1) := by
  refine dn_k ?_
  unfold Jvm.ClassFile.Decoder.instr
  refine (dn_bind (dn_u1 h)).trans ?_
  rfl
theorem dop_60 {c : ByteArray} {p : Nat} {r : List Nat} (h : dn c p = 60 :: r) : decode c p = .ok (.istore_n 1, 1) := by
  refine dn_k ?_
  unfold Jvm.ClassFile.Decoder.instr
  refine (dn_bind (dn_u1 h)).trans ?_
  rfl
theorem dop_61 {c : ByteArray} {p : Nat} {r : List Nat} (h : dn c p = 61 :: r) : decode c p = .ok (.istore_n 2, 1) := by
  refine dn_k ?_
  unfold Jvm.ClassFile.Decoder.instr
  refine (dn_bind (dn_u1 h)).trans ?_
  rfl
theorem dop_62 {c : ByteArray} {p : Nat} {r : List Nat} (h : dn c p = 62 :: r) : decode c p = .ok (.istore_n 3, 1) := by
  refine dn_k ?_
  unfold Jvm.ClassFile.Decoder.instr
  refine (dn_bind (dn_u1 h)).trans ?_
  rfl
theorem dop_78 {c : ByteArray} {p : Nat} {r : List Nat} (h : dn c p = 78 :: r) : decode c p = .ok (.astore_n 3, 1) := by
  refine dn_k ?_
  unfold Jvm.ClassFile.Decoder.instr
  refine (dn_bind (dn_u1 h)).trans ?_
  rfl
theorem dop_79 {c : ByteArray} {p : Nat} {r : List Nat} (h : dn c p = 79 :: r) : decode c p = .ok (.iastore, 1) := by
  refine dn_k ?_
  unfold Jvm.ClassFile.Decoder.instr
  refine (dn_bind (dn_u1 h)).trans ?_
  rfl
theorem dop_80 {c : ByteArray} {p : Nat} {r : List Nat} (h : dn c p = 80 :: r) : decode c p = .ok (.lastore, 1) := by
  refine dn_k ?_
  unfold Jvm.ClassFile.Decoder.instr
  refine (dn_bind (dn_u1 h)).trans ?_
  rfl
theorem dop_83 {c : ByteArray} {p : Nat} {r : List Nat} (h : dn c p = 83 :: r) : decode c p = .ok (.aastore, 1) := by
  refine dn_k ?_
  unfold Jvm.ClassFile.Decoder.instr
  refine (dn_bind (dn_u1 h)).trans ?_
  rfl
theorem dop_84 {c : ByteArray} {p : Nat} {r : List Nat} (h : dn c p = 84 :: r) : decode c p = .ok (.bastore, 1) := by
  refine dn_k ?_
  unfold Jvm.ClassFile.Decoder.instr
  refine (dn_bind (dn_u1 h)).trans ?_
  rfl
theorem dop_87 {c : ByteArray} {p : Nat} {r : List Nat} (h : dn c p = 87 :: r) : decode c p = .ok (.pop, 1) := by
  refine dn_k ?_
  unfold Jvm.ClassFile.Decoder.instr
  refine (dn_bind (dn_u1 h)).trans ?_
  rfl
theorem dop_89 {c : ByteArray} {p : Nat} {r : List Nat} (h : dn c p = 89 :: r) : decode c p = .ok (.dup, 1) := by
  refine dn_k ?_
  unfold Jvm.ClassFile.Decoder.instr
  refine (dn_bind (dn_u1 h)).trans ?_
  rfl
theorem dop_92 {c : ByteArray} {p : Nat} {r : List Nat} (h : dn c p = 92 :: r) : decode c p = .ok (.dup2, 1) := by
  refine dn_k ?_
  unfold Jvm.ClassFile.Decoder.instr
  refine (dn_bind (dn_u1 h)).trans ?_
  rfl
theorem dop_96 {c : ByteArray} {p : Nat} {r : List Nat} (h : dn c p = 96 :: r) : decode c p = .ok (.iadd, 1) := by
  refine dn_k ?_
  unfold Jvm.ClassFile.Decoder.instr
  refine (dn_bind (dn_u1 h)).trans ?_
  rfl
theorem dop_97 {c : ByteArray} {p : Nat} {r : List Nat} (h : dn c p = 97 :: r) : decode c p = .ok (.ladd, 1) := by
  refine dn_k ?_
  unfold Jvm.ClassFile.Decoder.instr
  refine (dn_bind (dn_u1 h)).trans ?_
  rfl
theorem dop_100 {c : ByteArray} {p : Nat} {r : List Nat} (h : dn c p = 100 :: r) : decode c p = .ok (.isub, 1) := by
  refine dn_k ?_
  unfold Jvm.ClassFile.Decoder.instr
  refine (dn_bind (dn_u1 h)).trans ?_
  rfl
theorem dop_101 {c : ByteArray} {p : Nat} {r : List Nat} (h : dn c p = 101 :: r) : decode c p = .ok (.lsub, 1) := by
  refine dn_k ?_
  unfold Jvm.ClassFile.Decoder.instr
  refine (dn_bind (dn_u1 h)).trans ?_
  rfl
theorem dop_104 {c : ByteArray} {p : Nat} {r : List Nat} (h : dn c p = 104 :: r) : decode c p = .ok (.imul, 1) := by
  refine dn_k ?_
  unfold Jvm.ClassFile.Decoder.instr
  refine (dn_bind (dn_u1 h)).trans ?_
  rfl
theorem dop_105 {c : ByteArray} {p : Nat} {r : List Nat} (h : dn c p = 105 :: r) : decode c p = .ok (.lmul, 1) := by
  refine dn_k ?_
  unfold Jvm.ClassFile.Decoder.instr
  refine (dn_bind (dn_u1 h)).trans ?_
  rfl
theorem dop_108 {c : ByteArray} {p : Nat} {r : List Nat} (h : dn c p = 108 :: r) : decode c p = .ok (.idiv, 1) := by
  refine dn_k ?_
  unfold Jvm.ClassFile.Decoder.instr
  refine (dn_bind (dn_u1 h)).trans ?_
  rfl
theorem dop_112 {c : ByteArray} {p : Nat} {r : List Nat} (h : dn c p = 112 :: r) : decode c p = .ok (.irem, 1) := by
  refine dn_k ?_
  unfold Jvm.ClassFile.Decoder.instr
  refine (dn_bind (dn_u1 h)).trans ?_
  rfl
theorem dop_120 {c : ByteArray} {p : Nat} {r : List Nat} (h : dn c p = 120 :: r) : decode c p = .ok (.ishl, 1) := by
  refine dn_k ?_
  unfold Jvm.ClassFile.Decoder.instr
  refine (dn_bind (dn_u1 h)).trans ?_
  rfl
theorem dop_122 {c : ByteArray} {p : Nat} {r : List Nat} (h : dn c p = 122 :: r) : decode c p = .ok (.ishr, 1) := by
  refine dn_k ?_
  unfold Jvm.ClassFile.Decoder.instr
  refine (dn_bind (dn_u1 h)).trans ?_
  rfl
theorem dop_123 {c : ByteArray} {p : Nat} {r : List Nat} (h : dn c p = 123 :: r) : decode c p = .ok (.lshr, 1) := by
  refine dn_k ?_
  unfold Jvm.ClassFile.Decoder.instr
  refine (dn_bind (dn_u1 h)).trans ?_
  rfl
theorem dop_124 {c : ByteArray} {p : Nat} {r : List Nat} (h : dn c p = 124 :: r) : decode c p = .ok (.iushr, 1) := by
  refine dn_k ?_
  unfold Jvm.ClassFile.Decoder.instr
  refine (dn_bind (dn_u1 h)).trans ?_
  rfl
theorem dop_126 {c : ByteArray} {p : Nat} {r : List Nat} (h : dn c p = 126 :: r) : decode c p = .ok (.iand, 1) := by
  refine dn_k ?_
  unfold Jvm.ClassFile.Decoder.instr
  refine (dn_bind (dn_u1 h)).trans ?_
  rfl
theorem dop_127 {c : ByteArray} {p : Nat} {r : List Nat} (h : dn c p = 127 :: r) : decode c p = .ok (.land, 1) := by
  refine dn_k ?_
  unfold Jvm.ClassFile.Decoder.instr
  refine (dn_bind (dn_u1 h)).trans ?_
  rfl
theorem dop_128 {c : ByteArray} {p : Nat} {r : List Nat} (h : dn c p = 128 :: r) : decode c p = .ok (.ior, 1) := by
  refine dn_k ?_
  unfold Jvm.ClassFile.Decoder.instr
  refine (dn_bind (dn_u1 h)).trans ?_
  rfl
theorem dop_130 {c : ByteArray} {p : Nat} {r : List Nat} (h : dn c p = 130 :: r) : decode c p = .ok (.ixor, 1) := by
  refine dn_k ?_
  unfold Jvm.ClassFile.Decoder.instr
  refine (dn_bind (dn_u1 h)).trans ?_
  rfl
theorem dop_132 {c : ByteArray} {p a b : Nat} {r : List Nat} {z : Int} (h : dn c p = 132 :: a :: b :: r) (e : Jvm.ClassFile.Reader.signed 8 b = z) : decode c p = .ok (.iinc a z, 3) := by
  refine dn_k ?_
  unfold Jvm.ClassFile.Decoder.instr
  refine (dn_bind (dn_u1 h)).trans ?_
  subst e
  refine (dn_bind (dn_u1 (dn_s h))).trans ?_
  refine (dn_bind (dn_s1 (dn_s (dn_s h)))).trans ?_
  rfl
theorem dop_133 {c : ByteArray} {p : Nat} {r : List Nat} (h : dn c p = 133 :: r) : decode c p = .ok (.i2l, 1) := by
  refine dn_k ?_
  unfold Jvm.ClassFile.Decoder.instr
  refine (dn_bind (dn_u1 h)).trans ?_
  rfl
theorem dop_136 {c : ByteArray} {p : Nat} {r : List Nat} (h : dn c p = 136 :: r) : decode c p = .ok (.l2i, 1) := by
  refine dn_k ?_
  unfold Jvm.ClassFile.Decoder.instr
  refine (dn_bind (dn_u1 h)).trans ?_
  rfl
theorem dop_145 {c : ByteArray} {p : Nat} {r : List Nat} (h : dn c p = 145 :: r) : decode c p = .ok (.i2b, 1) := by
  refine dn_k ?_
  unfold Jvm.ClassFile.Decoder.instr
  refine (dn_bind (dn_u1 h)).trans ?_
  rfl
theorem dop_146 {c : ByteArray} {p : Nat} {r : List Nat} (h : dn c p = 146 :: r) : decode c p = .ok (.i2c, 1) := by
  refine dn_k ?_
  unfold Jvm.ClassFile.Decoder.instr
  refine (dn_bind (dn_u1 h)).trans ?_
  rfl
theorem dop_147 {c : ByteArray} {p : Nat} {r : List Nat} (h : dn c p = 147 :: r) : decode c p = .ok (.i2s, 1) := by
  refine dn_k ?_
  unfold Jvm.ClassFile.Decoder.instr
  refine (dn_bind (dn_u1 h)).trans ?_
  rfl
theorem dop_148 {c : ByteArray} {p : Nat} {r : List Nat} (h : dn c p = 148 :: r) : decode c p = .ok (.lcmp, 1) := by
  refine dn_k ?_
  unfold Jvm.ClassFile.Decoder.instr
  refine (dn_bind (dn_u1 h)).trans ?_
  rfl
theorem dop_153 {c : ByteArray} {p a b : Nat} {r : List Nat} {z : Int} (h : dn c p = 153 :: a :: b :: r) (e : Jvm.ClassFile.Reader.signed 16 (a * 256 + b) = z) : decode c p = .ok (.ifCond .eq z, 3) := by
  refine dn_k ?_
  unfold Jvm.ClassFile.Decoder.instr
  refine (dn_bind (dn_u1 h)).trans ?_
  subst e
  refine (dn_bind (dn_s2 (dn_s h))).trans ?_
  rfl
theorem dop_154 {c : ByteArray} {p a b : Nat} {r : List Nat} {z : Int} (h : dn c p = 154 :: a :: b :: r) (e : Jvm.ClassFile.Reader.signed 16 (a * 256 + b) = z) : decode c p = .ok (.ifCond .ne z, 3) := by
  refine dn_k ?_
  unfold Jvm.ClassFile.Decoder.instr
  refine (dn_bind (dn_u1 h)).trans ?_
  subst e
  refine (dn_bind (dn_s2 (dn_s h))).trans ?_
  rfl
theorem dop_155 {c : ByteArray} {p a b : Nat} {r : List Nat} {z : Int} (h : dn c p = 155 :: a :: b :: r) (e : Jvm.ClassFile.Reader.signed 16 (a * 256 + b) = z) : decode c p = .ok (.ifCond .lt z, 3) := by
  refine dn_k ?_
  unfold Jvm.ClassFile.Decoder.instr
  refine (dn_bind (dn_u1 h)).trans ?_
  subst e
  refine (dn_bind (dn_s2 (dn_s h))).trans ?_
  rfl
theorem dop_156 {c : ByteArray} {p a b : Nat} {r : List Nat} {z : Int} (h : dn c p = 156 :: a :: b :: r) (e : Jvm.ClassFile.Reader.signed 16 (a * 256 + b) = z) : decode c p = .ok (.ifCond .ge z, 3) := by
  refine dn_k ?_
  unfold Jvm.ClassFile.Decoder.instr
  refine (dn_bind (dn_u1 h)).trans ?_
  subst e
  refine (dn_bind (dn_s2 (dn_s h))).trans ?_
  rfl
theorem dop_157 {c : ByteArray} {p a b : Nat} {r : List Nat} {z : Int} (h : dn c p = 157 :: a :: b :: r) (e : Jvm.ClassFile.Reader.signed 16 (a * 256 + b) = z) : decode c p = .ok (.ifCond .gt z, 3) := by
  refine dn_k ?_
  unfold Jvm.ClassFile.Decoder.instr
  refine (dn_bind (dn_u1 h)).trans ?_
  subst e
  refine (dn_bind (dn_s2 (dn_s h))).trans ?_
  rfl
theorem dop_158 {c : ByteArray} {p a b : Nat} {r : List Nat} {z : Int} (h : dn c p = 158 :: a :: b :: r) (e : Jvm.ClassFile.Reader.signed 16 (a * 256 + b) = z) : decode c p = .ok (.ifCond .le z, 3) := by
  refine dn_k ?_
  unfold Jvm.ClassFile.Decoder.instr
  refine (dn_bind (dn_u1 h)).trans ?_
  subst e
  refine (dn_bind (dn_s2 (dn_s h))).trans ?_
  rfl
theorem dop_159 {c : ByteArray} {p a b : Nat} {r : List Nat} {z : Int} (h : dn c p = 159 :: a :: b :: r) (e : Jvm.ClassFile.Reader.signed 16 (a * 256 + b) = z) : decode c p = .ok (.if_icmp .eq z, 3) := by
  refine dn_k ?_
  unfold Jvm.ClassFile.Decoder.instr
  refine (dn_bind (dn_u1 h)).trans ?_
  subst e
  refine (dn_bind (dn_s2 (dn_s h))).trans ?_
  rfl
theorem dop_160 {c : ByteArray} {p a b : Nat} {r : List Nat} {z : Int} (h : dn c p = 160 :: a :: b :: r) (e : Jvm.ClassFile.Reader.signed 16 (a * 256 + b) = z) : decode c p = .ok (.if_icmp .ne z, 3) := by
  refine dn_k ?_
  unfold Jvm.ClassFile.Decoder.instr
  refine (dn_bind (dn_u1 h)).trans ?_
  subst e
  refine (dn_bind (dn_s2 (dn_s h))).trans ?_
  rfl
theorem dop_161 {c : ByteArray} {p a b : Nat} {r : List Nat} {z : Int} (h : dn c p = 161 :: a :: b :: r) (e : Jvm.ClassFile.Reader.signed 16 (a * 256 + b) = z) : decode c p = .ok (.if_icmp .lt z, 3) := by
  refine dn_k ?_
  unfold Jvm.ClassFile.Decoder.instr
  refine (dn_bind (dn_u1 h)).trans ?_
  subst e
  refine (dn_bind (dn_s2 (dn_s h))).trans ?_
  rfl
theorem dop_162 {c : ByteArray} {p a b : Nat} {r : List Nat} {z : Int} (h : dn c p = 162 :: a :: b :: r) (e : Jvm.ClassFile.Reader.signed 16 (a * 256 + b) = z) : decode c p = .ok (.if_icmp .ge z, 3) := by
  refine dn_k ?_
  unfold Jvm.ClassFile.Decoder.instr
  refine (dn_bind (dn_u1 h)).trans ?_
  subst e
  refine (dn_bind (dn_s2 (dn_s h))).trans ?_
  rfl
theorem dop_163 {c : ByteArray} {p a b : Nat} {r : List Nat} {z : Int} (h : dn c p = 163 :: a :: b :: r) (e : Jvm.ClassFile.Reader.signed 16 (a * 256 + b) = z) : decode c p = .ok (.if_icmp .gt z, 3) := by
  refine dn_k ?_
  unfold Jvm.ClassFile.Decoder.instr
  refine (dn_bind (dn_u1 h)).trans ?_
  subst e
  refine (dn_bind (dn_s2 (dn_s h))).trans ?_
  rfl
theorem dop_164 {c : ByteArray} {p a b : Nat} {r : List Nat} {z : Int} (h : dn c p = 164 :: a :: b :: r) (e : Jvm.ClassFile.Reader.signed 16 (a * 256 + b) = z) : decode c p = .ok (.if_icmp .le z, 3) := by
  refine dn_k ?_
  unfold Jvm.ClassFile.Decoder.instr
  refine (dn_bind (dn_u1 h)).trans ?_
  subst e
  refine (dn_bind (dn_s2 (dn_s h))).trans ?_
  rfl
theorem dop_167 {c : ByteArray} {p a b : Nat} {r : List Nat} {z : Int} (h : dn c p = 167 :: a :: b :: r) (e : Jvm.ClassFile.Reader.signed 16 (a * 256 + b) = z) : decode c p = .ok (.goto z, 3) := by
  refine dn_k ?_
  unfold Jvm.ClassFile.Decoder.instr
  refine (dn_bind (dn_u1 h)).trans ?_
  subst e
  refine (dn_bind (dn_s2 (dn_s h))).trans ?_
  rfl
theorem dop_172 {c : ByteArray} {p : Nat} {r : List Nat} (h : dn c p = 172 :: r) : decode c p = .ok (.ireturn, 1) := by
  refine dn_k ?_
  unfold Jvm.ClassFile.Decoder.instr
  refine (dn_bind (dn_u1 h)).trans ?_
  rfl
theorem dop_173 {c : ByteArray} {p : Nat} {r : List Nat} (h : dn c p = 173 :: r) : decode c p = .ok (.lreturn, 1) := by
  refine dn_k ?_
  unfold Jvm.ClassFile.Decoder.instr
  refine (dn_bind (dn_u1 h)).trans ?_
  rfl
theorem dop_176 {c : ByteArray} {p : Nat} {r : List Nat} (h : dn c p = 176 :: r) : decode c p = .ok (.areturn, 1) := by
  refine dn_k ?_
  unfold Jvm.ClassFile.Decoder.instr
  refine (dn_bind (dn_u1 h)).trans ?_
  rfl
theorem dop_177 {c : ByteArray} {p : Nat} {r : List Nat} (h : dn c p = 177 :: r) : decode c p = .ok (.return_, 1) := by
  refine dn_k ?_
  unfold Jvm.ClassFile.Decoder.instr
  refine (dn_bind (dn_u1 h)).trans ?_
  rfl
theorem dop_178 {c : ByteArray} {p a b n : Nat} {r : List Nat} (h : dn c p = 178 :: a :: b :: r) (e : a * 256 + b = n) : decode c p = .ok (.getstatic n, 3) := by
  refine dn_k ?_
  unfold Jvm.ClassFile.Decoder.instr
  refine (dn_bind (dn_u1 h)).trans ?_
  subst e
  refine (dn_bind (dn_u2 (dn_s h))).trans ?_
  rfl
theorem dop_180 {c : ByteArray} {p a b n : Nat} {r : List Nat} (h : dn c p = 180 :: a :: b :: r) (e : a * 256 + b = n) : decode c p = .ok (.getfield n, 3) := by
  refine dn_k ?_
  unfold Jvm.ClassFile.Decoder.instr
  refine (dn_bind (dn_u1 h)).trans ?_
  subst e
  refine (dn_bind (dn_u2 (dn_s h))).trans ?_
  rfl
theorem dop_181 {c : ByteArray} {p a b n : Nat} {r : List Nat} (h : dn c p = 181 :: a :: b :: r) (e : a * 256 + b = n) : decode c p = .ok (.putfield n, 3) := by
  refine dn_k ?_
  unfold Jvm.ClassFile.Decoder.instr
  refine (dn_bind (dn_u1 h)).trans ?_
  subst e
  refine (dn_bind (dn_u2 (dn_s h))).trans ?_
  rfl
theorem dop_182 {c : ByteArray} {p a b n : Nat} {r : List Nat} (h : dn c p = 182 :: a :: b :: r) (e : a * 256 + b = n) : decode c p = .ok (.invokevirtual n, 3) := by
  refine dn_k ?_
  unfold Jvm.ClassFile.Decoder.instr
  refine (dn_bind (dn_u1 h)).trans ?_
  subst e
  refine (dn_bind (dn_u2 (dn_s h))).trans ?_
  rfl
theorem dop_183 {c : ByteArray} {p a b n : Nat} {r : List Nat} (h : dn c p = 183 :: a :: b :: r) (e : a * 256 + b = n) : decode c p = .ok (.invokespecial n, 3) := by
  refine dn_k ?_
  unfold Jvm.ClassFile.Decoder.instr
  refine (dn_bind (dn_u1 h)).trans ?_
  subst e
  refine (dn_bind (dn_u2 (dn_s h))).trans ?_
  rfl
theorem dop_184 {c : ByteArray} {p a b n : Nat} {r : List Nat} (h : dn c p = 184 :: a :: b :: r) (e : a * 256 + b = n) : decode c p = .ok (.invokestatic n, 3) := by
  refine dn_k ?_
  unfold Jvm.ClassFile.Decoder.instr
  refine (dn_bind (dn_u1 h)).trans ?_
  subst e
  refine (dn_bind (dn_u2 (dn_s h))).trans ?_
  rfl
theorem dop_187 {c : ByteArray} {p a b n : Nat} {r : List Nat} (h : dn c p = 187 :: a :: b :: r) (e : a * 256 + b = n) : decode c p = .ok (.new n, 3) := by
  refine dn_k ?_
  unfold Jvm.ClassFile.Decoder.instr
  refine (dn_bind (dn_u1 h)).trans ?_
  subst e
  refine (dn_bind (dn_u2 (dn_s h))).trans ?_
  rfl
theorem dop_189 {c : ByteArray} {p a b n : Nat} {r : List Nat} (h : dn c p = 189 :: a :: b :: r) (e : a * 256 + b = n) : decode c p = .ok (.anewarray n, 3) := by
  refine dn_k ?_
  unfold Jvm.ClassFile.Decoder.instr
  refine (dn_bind (dn_u1 h)).trans ?_
  subst e
  refine (dn_bind (dn_u2 (dn_s h))).trans ?_
  rfl
theorem dop_190 {c : ByteArray} {p : Nat} {r : List Nat} (h : dn c p = 190 :: r) : decode c p = .ok (.arraylength, 1) := by
  refine dn_k ?_
  unfold Jvm.ClassFile.Decoder.instr
  refine (dn_bind (dn_u1 h)).trans ?_
  rfl
theorem dop_191 {c : ByteArray} {p : Nat} {r : List Nat} (h : dn c p = 191 :: r) : decode c p = .ok (.athrow, 1) := by
  refine dn_k ?_
  unfold Jvm.ClassFile.Decoder.instr
  refine (dn_bind (dn_u1 h)).trans ?_
  rfl
noncomputable def dt0_0 : List Nat := 42 :: 183 :: 0 :: 3 :: 177 :: []
theorem dw0_0 : dn cX0_init 0 = dt0_0 := by decide +kernel
theorem dX0_init_0 : decode cX0_init 0 = .ok (.aload_n 0, 1) := dop_42 (dn_w dw0_0 0 rfl)
theorem dX0_init_1 : decode cX0_init 1 = .ok (.invokespecial 3, 3) := dop_183 (dn_w dw0_0 1 rfl) rfl
theorem dX0_init_4 : decode cX0_init 4 = .ok (.return_, 1) := dop_177 (dn_w dw0_0 4 rfl)
noncomputable def dt1_15 : List Nat := 3 :: 172 :: []
noncomputable def dt1_14 : List Nat := 180 :: 0 :: 33 :: 42 :: 180 :: 0 :: 36 :: 161 :: 0 :: 7 :: 4 :: 167 :: 0 :: 4 :: 3 :: 172 :: dt1_15
noncomputable def dt1_13 : List Nat := 0 :: 27 :: 42 :: 180 :: 0 :: 24 :: 8 :: 161 :: 0 :: 8 :: 21 :: 4 :: 154 :: 0 :: 14 :: 42 :: dt1_14
noncomputable def dt1_12 : List Nat := 167 :: 0 :: 4 :: 3 :: 172 :: 29 :: 154 :: 0 :: 36 :: 42 :: 180 :: 0 :: 9 :: 7 :: 126 :: 154 :: dt1_13
noncomputable def dt1_11 : List Nat := 0 :: 4 :: 3 :: 172 :: 42 :: 180 :: 0 :: 30 :: 157 :: 0 :: 7 :: 29 :: 153 :: 0 :: 7 :: 4 :: dt1_12
noncomputable def dt1_10 : List Nat := 7 :: 4 :: 167 :: 0 :: 4 :: 3 :: 172 :: 42 :: 180 :: 0 :: 30 :: 158 :: 0 :: 7 :: 4 :: 167 :: dt1_11
noncomputable def dt1_9 : List Nat := 0 :: 18 :: 42 :: 180 :: 0 :: 21 :: 42 :: 180 :: 0 :: 24 :: 96 :: 5 :: 112 :: 4 :: 160 :: 0 :: dt1_10
noncomputable def dt1_8 : List Nat := 0 :: 0 :: 0 :: 91 :: 0 :: 0 :: 0 :: 36 :: 0 :: 0 :: 0 :: 74 :: 28 :: 172 :: 28 :: 154 :: dt1_9
noncomputable def dt1_7 : List Nat := 0 :: 0 :: 0 :: 1 :: 0 :: 0 :: 0 :: 5 :: 0 :: 0 :: 0 :: 34 :: 0 :: 0 :: 0 :: 61 :: dt1_8
noncomputable def dt1_6 : List Nat := 167 :: 0 :: 4 :: 3 :: 54 :: 4 :: 42 :: 180 :: 0 :: 27 :: 170 :: 0 :: 0 :: 0 :: 0 :: 134 :: dt1_7
noncomputable def dt1_5 : List Nat := 4 :: 167 :: 0 :: 4 :: 3 :: 62 :: 27 :: 153 :: 0 :: 8 :: 27 :: 7 :: 160 :: 0 :: 7 :: 4 :: dt1_6
noncomputable def dt1_4 : List Nat := 7 :: 4 :: 167 :: 0 :: 4 :: 3 :: 61 :: 42 :: 180 :: 0 :: 9 :: 4 :: 126 :: 153 :: 0 :: 7 :: dt1_5
noncomputable def dt1_3 : List Nat := 0 :: 9 :: 5 :: 126 :: 154 :: 0 :: 13 :: 27 :: 42 :: 180 :: 0 :: 24 :: 8 :: 112 :: 160 :: 0 :: dt1_4
noncomputable def dt1_2 : List Nat := 8 :: 126 :: 153 :: 0 :: 5 :: 3 :: 172 :: 42 :: 180 :: 0 :: 21 :: 8 :: 112 :: 60 :: 42 :: 180 :: dt1_3
noncomputable def dt1_1 : List Nat := 0 :: 5 :: 4 :: 172 :: 42 :: 180 :: 0 :: 18 :: 157 :: 0 :: 13 :: 42 :: 180 :: 0 :: 9 :: 16 :: dt1_2
noncomputable def dt1_0 : List Nat := 42 :: 180 :: 0 :: 9 :: 16 :: 16 :: 126 :: 153 :: 0 :: 13 :: 42 :: 180 :: 0 :: 15 :: 8 :: 164 :: dt1_1
theorem dw1_0 : dn cX0_isSo 0 = dt1_0 := by decide +kernel
theorem dw1_1 : dn cX0_isSo 16 = dt1_1 := dn_w dw1_0 16 rfl
theorem dw1_2 : dn cX0_isSo 32 = dt1_2 := dn_w dw1_1 16 rfl
theorem dw1_3 : dn cX0_isSo 48 = dt1_3 := dn_w dw1_2 16 rfl
theorem dw1_4 : dn cX0_isSo 64 = dt1_4 := dn_w dw1_3 16 rfl
theorem dw1_5 : dn cX0_isSo 80 = dt1_5 := dn_w dw1_4 16 rfl
theorem dw1_6 : dn cX0_isSo 96 = dt1_6 := dn_w dw1_5 16 rfl
theorem dw1_7 : dn cX0_isSo 112 = dt1_7 := dn_w dw1_6 16 rfl
theorem dw1_8 : dn cX0_isSo 128 = dt1_8 := dn_w dw1_7 16 rfl
theorem dw1_9 : dn cX0_isSo 144 = dt1_9 := dn_w dw1_8 16 rfl
theorem dw1_10 : dn cX0_isSo 160 = dt1_10 := dn_w dw1_9 16 rfl
theorem dw1_11 : dn cX0_isSo 176 = dt1_11 := dn_w dw1_10 16 rfl
theorem dw1_12 : dn cX0_isSo 192 = dt1_12 := dn_w dw1_11 16 rfl
theorem dw1_13 : dn cX0_isSo 208 = dt1_13 := dn_w dw1_12 16 rfl
theorem dw1_14 : dn cX0_isSo 224 = dt1_14 := dn_w dw1_13 16 rfl
theorem dw1_15 : dn cX0_isSo 240 = dt1_15 := dn_w dw1_14 16 rfl
theorem dX0_isSo_0 : decode cX0_isSo 0 = .ok (.aload_n 0, 1) := dop_42 (dn_w dw1_0 0 rfl)
theorem dX0_isSo_1 : decode cX0_isSo 1 = .ok (.getfield 9, 3) := dop_180 (dn_w dw1_0 1 rfl) rfl
theorem dX0_isSo_4 : decode cX0_isSo 4 = .ok (.bipush 16, 2) := dop_16 (dn_w dw1_0 4 rfl) rfl
theorem dX0_isSo_6 : decode cX0_isSo 6 = .ok (.iand, 1) := dop_126 (dn_w dw1_0 6 rfl)
theorem dX0_isSo_7 : decode cX0_isSo 7 = .ok (.ifCond .eq 13, 3) := dop_153 (dn_w dw1_0 7 rfl) rfl
theorem dX0_isSo_10 : decode cX0_isSo 10 = .ok (.aload_n 0, 1) := dop_42 (dn_w dw1_0 10 rfl)
theorem dX0_isSo_11 : decode cX0_isSo 11 = .ok (.getfield 15, 3) := dop_180 (dn_w dw1_0 11 rfl) rfl
theorem dX0_isSo_14 : decode cX0_isSo 14 = .ok (.iconst 5, 1) := dop_8 (dn_w dw1_0 14 rfl)
theorem dX0_isSo_15 : decode cX0_isSo 15 = .ok (.if_icmp .le 5, 3) := dop_164 (dn_w dw1_0 15 rfl) rfl
theorem dX0_isSo_18 : decode cX0_isSo 18 = .ok (.iconst 1, 1) := dop_4 (dn_w dw1_1 2 rfl)
theorem dX0_isSo_19 : decode cX0_isSo 19 = .ok (.ireturn, 1) := dop_172 (dn_w dw1_1 3 rfl)
theorem dX0_isSo_20 : decode cX0_isSo 20 = .ok (.aload_n 0, 1) := dop_42 (dn_w dw1_1 4 rfl)
theorem dX0_isSo_21 : decode cX0_isSo 21 = .ok (.getfield 18, 3) := dop_180 (dn_w dw1_1 5 rfl) rfl
theorem dX0_isSo_24 : decode cX0_isSo 24 = .ok (.ifCond .gt 13, 3) := dop_157 (dn_w dw1_1 8 rfl) rfl
theorem dX0_isSo_27 : decode cX0_isSo 27 = .ok (.aload_n 0, 1) := dop_42 (dn_w dw1_1 11 rfl)
theorem dX0_isSo_28 : decode cX0_isSo 28 = .ok (.getfield 9, 3) := dop_180 (dn_w dw1_1 12 rfl) rfl
theorem dX0_isSo_31 : decode cX0_isSo 31 = .ok (.bipush 8, 2) := dop_16 (dn_w dw1_1 15 rfl) rfl
theorem dX0_isSo_33 : decode cX0_isSo 33 = .ok (.iand, 1) := dop_126 (dn_w dw1_2 1 rfl)
theorem dX0_isSo_34 : decode cX0_isSo 34 = .ok (.ifCond .eq 5, 3) := dop_153 (dn_w dw1_2 2 rfl) rfl
theorem dX0_isSo_37 : decode cX0_isSo 37 = .ok (.iconst 0, 1) := dop_3 (dn_w dw1_2 5 rfl)
theorem dX0_isSo_38 : decode cX0_isSo 38 = .ok (.ireturn, 1) := dop_172 (dn_w dw1_2 6 rfl)
theorem dX0_isSo_39 : decode cX0_isSo 39 = .ok (.aload_n 0, 1) := dop_42 (dn_w dw1_2 7 rfl)
theorem dX0_isSo_40 : decode cX0_isSo 40 = .ok (.getfield 21, 3) := dop_180 (dn_w dw1_2 8 rfl) rfl
theorem dX0_isSo_43 : decode cX0_isSo 43 = .ok (.iconst 5, 1) := dop_8 (dn_w dw1_2 11 rfl)
theorem dX0_isSo_44 : decode cX0_isSo 44 = .ok (.irem, 1) := dop_112 (dn_w dw1_2 12 rfl)
theorem dX0_isSo_45 : decode cX0_isSo 45 = .ok (.istore_n 1, 1) := dop_60 (dn_w dw1_2 13 rfl)
theorem dX0_isSo_46 : decode cX0_isSo 46 = .ok (.aload_n 0, 1) := dop_42 (dn_w dw1_2 14 rfl)
theorem dX0_isSo_47 : decode cX0_isSo 47 = .ok (.getfield 9, 3) := dop_180 (dn_w dw1_2 15 rfl) rfl
theorem dX0_isSo_50 : decode cX0_isSo 50 = .ok (.iconst 2, 1) := dop_5 (dn_w dw1_3 2 rfl)
theorem dX0_isSo_51 : decode cX0_isSo 51 = .ok (.iand, 1) := dop_126 (dn_w dw1_3 3 rfl)
theorem dX0_isSo_52 : decode cX0_isSo 52 = .ok (.ifCond .ne 13, 3) := dop_154 (dn_w dw1_3 4 rfl) rfl
theorem dX0_isSo_55 : decode cX0_isSo 55 = .ok (.iload_n 1, 1) := dop_27 (dn_w dw1_3 7 rfl)
theorem dX0_isSo_56 : decode cX0_isSo 56 = .ok (.aload_n 0, 1) := dop_42 (dn_w dw1_3 8 rfl)
theorem dX0_isSo_57 : decode cX0_isSo 57 = .ok (.getfield 24, 3) := dop_180 (dn_w dw1_3 9 rfl) rfl
theorem dX0_isSo_60 : decode cX0_isSo 60 = .ok (.iconst 5, 1) := dop_8 (dn_w dw1_3 12 rfl)
theorem dX0_isSo_61 : decode cX0_isSo 61 = .ok (.irem, 1) := dop_112 (dn_w dw1_3 13 rfl)
theorem dX0_isSo_62 : decode cX0_isSo 62 = .ok (.if_icmp .ne 7, 3) := dop_160 (dn_w dw1_3 14 rfl) rfl
theorem dX0_isSo_65 : decode cX0_isSo 65 = .ok (.iconst 1, 1) := dop_4 (dn_w dw1_4 1 rfl)
theorem dX0_isSo_66 : decode cX0_isSo 66 = .ok (.goto 4, 3) := dop_167 (dn_w dw1_4 2 rfl) rfl
theorem dX0_isSo_69 : decode cX0_isSo 69 = .ok (.iconst 0, 1) := dop_3 (dn_w dw1_4 5 rfl)
theorem dX0_isSo_70 : decode cX0_isSo 70 = .ok (.istore_n 2, 1) := dop_61 (dn_w dw1_4 6 rfl)
theorem dX0_isSo_71 : decode cX0_isSo 71 = .ok (.aload_n 0, 1) := dop_42 (dn_w dw1_4 7 rfl)
theorem dX0_isSo_72 : decode cX0_isSo 72 = .ok (.getfield 9, 3) := dop_180 (dn_w dw1_4 8 rfl) rfl
theorem dX0_isSo_75 : decode cX0_isSo 75 = .ok (.iconst 1, 1) := dop_4 (dn_w dw1_4 11 rfl)
theorem dX0_isSo_76 : decode cX0_isSo 76 = .ok (.iand, 1) := dop_126 (dn_w dw1_4 12 rfl)
theorem dX0_isSo_77 : decode cX0_isSo 77 = .ok (.ifCond .eq 7, 3) := dop_153 (dn_w dw1_4 13 rfl) rfl
theorem dX0_isSo_80 : decode cX0_isSo 80 = .ok (.iconst 1, 1) := dop_4 (dn_w dw1_5 0 rfl)
theorem dX0_isSo_81 : decode cX0_isSo 81 = .ok (.goto 4, 3) := dop_167 (dn_w dw1_5 1 rfl) rfl
theorem dX0_isSo_84 : decode cX0_isSo 84 = .ok (.iconst 0, 1) := dop_3 (dn_w dw1_5 4 rfl)
theorem dX0_isSo_85 : decode cX0_isSo 85 = .ok (.istore_n 3, 1) := dop_62 (dn_w dw1_5 5 rfl)
theorem dX0_isSo_86 : decode cX0_isSo 86 = .ok (.iload_n 1, 1) := dop_27 (dn_w dw1_5 6 rfl)
theorem dX0_isSo_87 : decode cX0_isSo 87 = .ok (.ifCond .eq 8, 3) := dop_153 (dn_w dw1_5 7 rfl) rfl
theorem dX0_isSo_90 : decode cX0_isSo 90 = .ok (.iload_n 1, 1) := dop_27 (dn_w dw1_5 10 rfl)
theorem dX0_isSo_91 : decode cX0_isSo 91 = .ok (.iconst 4, 1) := dop_7 (dn_w dw1_5 11 rfl)
theorem dX0_isSo_92 : decode cX0_isSo 92 = .ok (.if_icmp .ne 7, 3) := dop_160 (dn_w dw1_5 12 rfl) rfl
theorem dX0_isSo_95 : decode cX0_isSo 95 = .ok (.iconst 1, 1) := dop_4 (dn_w dw1_5 15 rfl)
theorem dX0_isSo_96 : decode cX0_isSo 96 = .ok (.goto 4, 3) := dop_167 (dn_w dw1_6 0 rfl) rfl
theorem dX0_isSo_99 : decode cX0_isSo 99 = .ok (.iconst 0, 1) := dop_3 (dn_w dw1_6 3 rfl)
theorem dX0_isSo_100 : decode cX0_isSo 100 = .ok (.istore 4, 2) := dop_54 (dn_w dw1_6 4 rfl)
theorem dX0_isSo_102 : decode cX0_isSo 102 = .ok (.aload_n 0, 1) := dop_42 (dn_w dw1_6 6 rfl)
theorem dX0_isSo_103 : decode cX0_isSo 103 = .ok (.getfield 27, 3) := dop_180 (dn_w dw1_6 7 rfl) rfl
theorem dX0_isSo_106 : decode cX0_isSo 106 = .ok (.tableswitch 134 1 5 #[34, 61, 91, 36, 74], 34) := by decide +kernel
theorem dX0_isSo_140 : decode cX0_isSo 140 = .ok (.iload_n 2, 1) := dop_28 (dn_w dw1_8 12 rfl)
theorem dX0_isSo_141 : decode cX0_isSo 141 = .ok (.ireturn, 1) := dop_172 (dn_w dw1_8 13 rfl)
theorem dX0_isSo_142 : decode cX0_isSo 142 = .ok (.iload_n 2, 1) := dop_28 (dn_w dw1_8 14 rfl)
theorem dX0_isSo_143 : decode cX0_isSo 143 = .ok (.ifCond .ne 18, 3) := dop_154 (dn_w dw1_8 15 rfl) rfl
theorem dX0_isSo_146 : decode cX0_isSo 146 = .ok (.aload_n 0, 1) := dop_42 (dn_w dw1_9 2 rfl)
theorem dX0_isSo_147 : decode cX0_isSo 147 = .ok (.getfield 21, 3) := dop_180 (dn_w dw1_9 3 rfl) rfl
theorem dX0_isSo_150 : decode cX0_isSo 150 = .ok (.aload_n 0, 1) := dop_42 (dn_w dw1_9 6 rfl)
theorem dX0_isSo_151 : decode cX0_isSo 151 = .ok (.getfield 24, 3) := dop_180 (dn_w dw1_9 7 rfl) rfl
theorem dX0_isSo_154 : decode cX0_isSo 154 = .ok (.iadd, 1) := dop_96 (dn_w dw1_9 10 rfl)
theorem dX0_isSo_155 : decode cX0_isSo 155 = .ok (.iconst 2, 1) := dop_5 (dn_w dw1_9 11 rfl)
theorem dX0_isSo_156 : decode cX0_isSo 156 = .ok (.irem, 1) := dop_112 (dn_w dw1_9 12 rfl)
theorem dX0_isSo_157 : decode cX0_isSo 157 = .ok (.iconst 1, 1) := dop_4 (dn_w dw1_9 13 rfl)
theorem dX0_isSo_158 : decode cX0_isSo 158 = .ok (.if_icmp .ne 7, 3) := dop_160 (dn_w dw1_9 14 rfl) rfl
theorem dX0_isSo_161 : decode cX0_isSo 161 = .ok (.iconst 1, 1) := dop_4 (dn_w dw1_10 1 rfl)
theorem dX0_isSo_162 : decode cX0_isSo 162 = .ok (.goto 4, 3) := dop_167 (dn_w dw1_10 2 rfl) rfl
theorem dX0_isSo_165 : decode cX0_isSo 165 = .ok (.iconst 0, 1) := dop_3 (dn_w dw1_10 5 rfl)
theorem dX0_isSo_166 : decode cX0_isSo 166 = .ok (.ireturn, 1) := dop_172 (dn_w dw1_10 6 rfl)
theorem dX0_isSo_167 : decode cX0_isSo 167 = .ok (.aload_n 0, 1) := dop_42 (dn_w dw1_10 7 rfl)
theorem dX0_isSo_168 : decode cX0_isSo 168 = .ok (.getfield 30, 3) := dop_180 (dn_w dw1_10 8 rfl) rfl
theorem dX0_isSo_171 : decode cX0_isSo 171 = .ok (.ifCond .le 7, 3) := dop_158 (dn_w dw1_10 11 rfl) rfl
theorem dX0_isSo_174 : decode cX0_isSo 174 = .ok (.iconst 1, 1) := dop_4 (dn_w dw1_10 14 rfl)
theorem dX0_isSo_175 : decode cX0_isSo 175 = .ok (.goto 4, 3) := dop_167 (dn_w dw1_10 15 rfl) rfl
theorem dX0_isSo_178 : decode cX0_isSo 178 = .ok (.iconst 0, 1) := dop_3 (dn_w dw1_11 2 rfl)
theorem dX0_isSo_179 : decode cX0_isSo 179 = .ok (.ireturn, 1) := dop_172 (dn_w dw1_11 3 rfl)
theorem dX0_isSo_180 : decode cX0_isSo 180 = .ok (.aload_n 0, 1) := dop_42 (dn_w dw1_11 4 rfl)
theorem dX0_isSo_181 : decode cX0_isSo 181 = .ok (.getfield 30, 3) := dop_180 (dn_w dw1_11 5 rfl) rfl
theorem dX0_isSo_184 : decode cX0_isSo 184 = .ok (.ifCond .gt 7, 3) := dop_157 (dn_w dw1_11 8 rfl) rfl
theorem dX0_isSo_187 : decode cX0_isSo 187 = .ok (.iload_n 3, 1) := dop_29 (dn_w dw1_11 11 rfl)
theorem dX0_isSo_188 : decode cX0_isSo 188 = .ok (.ifCond .eq 7, 3) := dop_153 (dn_w dw1_11 12 rfl) rfl
theorem dX0_isSo_191 : decode cX0_isSo 191 = .ok (.iconst 1, 1) := dop_4 (dn_w dw1_11 15 rfl)
theorem dX0_isSo_192 : decode cX0_isSo 192 = .ok (.goto 4, 3) := dop_167 (dn_w dw1_12 0 rfl) rfl
theorem dX0_isSo_195 : decode cX0_isSo 195 = .ok (.iconst 0, 1) := dop_3 (dn_w dw1_12 3 rfl)
theorem dX0_isSo_196 : decode cX0_isSo 196 = .ok (.ireturn, 1) := dop_172 (dn_w dw1_12 4 rfl)
theorem dX0_isSo_197 : decode cX0_isSo 197 = .ok (.iload_n 3, 1) := dop_29 (dn_w dw1_12 5 rfl)
theorem dX0_isSo_198 : decode cX0_isSo 198 = .ok (.ifCond .ne 36, 3) := dop_154 (dn_w dw1_12 6 rfl) rfl
theorem dX0_isSo_201 : decode cX0_isSo 201 = .ok (.aload_n 0, 1) := dop_42 (dn_w dw1_12 9 rfl)
theorem dX0_isSo_202 : decode cX0_isSo 202 = .ok (.getfield 9, 3) := dop_180 (dn_w dw1_12 10 rfl) rfl
theorem dX0_isSo_205 : decode cX0_isSo 205 = .ok (.iconst 4, 1) := dop_7 (dn_w dw1_12 13 rfl)
theorem dX0_isSo_206 : decode cX0_isSo 206 = .ok (.iand, 1) := dop_126 (dn_w dw1_12 14 rfl)
theorem dX0_isSo_207 : decode cX0_isSo 207 = .ok (.ifCond .ne 27, 3) := dop_154 (dn_w dw1_12 15 rfl) rfl
theorem dX0_isSo_210 : decode cX0_isSo 210 = .ok (.aload_n 0, 1) := dop_42 (dn_w dw1_13 2 rfl)
theorem dX0_isSo_211 : decode cX0_isSo 211 = .ok (.getfield 24, 3) := dop_180 (dn_w dw1_13 3 rfl) rfl
theorem dX0_isSo_214 : decode cX0_isSo 214 = .ok (.iconst 5, 1) := dop_8 (dn_w dw1_13 6 rfl)
theorem dX0_isSo_215 : decode cX0_isSo 215 = .ok (.if_icmp .lt 8, 3) := dop_161 (dn_w dw1_13 7 rfl) rfl
theorem dX0_isSo_218 : decode cX0_isSo 218 = .ok (.iload 4, 2) := dop_21 (dn_w dw1_13 10 rfl)
theorem dX0_isSo_220 : decode cX0_isSo 220 = .ok (.ifCond .ne 14, 3) := dop_154 (dn_w dw1_13 12 rfl) rfl
theorem dX0_isSo_223 : decode cX0_isSo 223 = .ok (.aload_n 0, 1) := dop_42 (dn_w dw1_13 15 rfl)
theorem dX0_isSo_224 : decode cX0_isSo 224 = .ok (.getfield 33, 3) := dop_180 (dn_w dw1_14 0 rfl) rfl
theorem dX0_isSo_227 : decode cX0_isSo 227 = .ok (.aload_n 0, 1) := dop_42 (dn_w dw1_14 3 rfl)
theorem dX0_isSo_228 : decode cX0_isSo 228 = .ok (.getfield 36, 3) := dop_180 (dn_w dw1_14 4 rfl) rfl
theorem dX0_isSo_231 : decode cX0_isSo 231 = .ok (.if_icmp .lt 7, 3) := dop_161 (dn_w dw1_14 7 rfl) rfl
theorem dX0_isSo_234 : decode cX0_isSo 234 = .ok (.iconst 1, 1) := dop_4 (dn_w dw1_14 10 rfl)
theorem dX0_isSo_235 : decode cX0_isSo 235 = .ok (.goto 4, 3) := dop_167 (dn_w dw1_14 11 rfl) rfl
theorem dX0_isSo_238 : decode cX0_isSo 238 = .ok (.iconst 0, 1) := dop_3 (dn_w dw1_14 14 rfl)
theorem dX0_isSo_239 : decode cX0_isSo 239 = .ok (.ireturn, 1) := dop_172 (dn_w dw1_14 15 rfl)
theorem dX0_isSo_240 : decode cX0_isSo 240 = .ok (.iconst 0, 1) := dop_3 (dn_w dw1_15 0 rfl)
theorem dX0_isSo_241 : decode cX0_isSo 241 = .ok (.ireturn, 1) := dop_172 (dn_w dw1_15 1 rfl)
noncomputable def dt2_1 : List Nat := 15 :: 177 :: []
noncomputable def dt2_0 : List Nat := 42 :: 183 :: 0 :: 3 :: 42 :: 16 :: 60 :: 188 :: 10 :: 181 :: 0 :: 11 :: 42 :: 3 :: 181 :: 0 :: dt2_1
theorem dw2_0 : dn cX1_init 0 = dt2_0 := by decide +kernel
theorem dw2_1 : dn cX1_init 16 = dt2_1 := dn_w dw2_0 16 rfl
theorem dX1_init_0 : decode cX1_init 0 = .ok (.aload_n 0, 1) := dop_42 (dn_w dw2_0 0 rfl)
theorem dX1_init_1 : decode cX1_init 1 = .ok (.invokespecial 3, 3) := dop_183 (dn_w dw2_0 1 rfl) rfl
theorem dX1_init_4 : decode cX1_init 4 = .ok (.aload_n 0, 1) := dop_42 (dn_w dw2_0 4 rfl)
theorem dX1_init_5 : decode cX1_init 5 = .ok (.bipush 60, 2) := dop_16 (dn_w dw2_0 5 rfl) rfl
theorem dX1_init_7 : decode cX1_init 7 = .ok (.newarray .int, 2) := by decide +kernel
theorem dX1_init_9 : decode cX1_init 9 = .ok (.putfield 11, 3) := dop_181 (dn_w dw2_0 9 rfl) rfl
theorem dX1_init_12 : decode cX1_init 12 = .ok (.aload_n 0, 1) := dop_42 (dn_w dw2_0 12 rfl)
theorem dX1_init_13 : decode cX1_init 13 = .ok (.iconst 0, 1) := dop_3 (dn_w dw2_0 13 rfl)
theorem dX1_init_14 : decode cX1_init 14 = .ok (.putfield 15, 3) := dop_181 (dn_w dw2_0 14 rfl) rfl
theorem dX1_init_17 : decode cX1_init 17 = .ok (.return_, 1) := dop_177 (dn_w dw2_1 1 rfl)
noncomputable def dt3_1 : List Nat := 28 :: 6 :: 162 :: 0 :: 11 :: 27 :: 6 :: 104 :: 28 :: 96 :: 167 :: 0 :: 4 :: 2 :: 172 :: []
noncomputable def dt3_0 : List Nat := 27 :: 155 :: 0 :: 28 :: 27 :: 42 :: 180 :: 0 :: 15 :: 162 :: 0 :: 20 :: 28 :: 155 :: 0 :: 16 :: dt3_1
theorem dw3_0 : dn cX1_placeOf 0 = dt3_0 := by decide +kernel
theorem dw3_1 : dn cX1_placeOf 16 = dt3_1 := dn_w dw3_0 16 rfl
theorem dX1_placeOf_0 : decode cX1_placeOf 0 = .ok (.iload_n 1, 1) := dop_27 (dn_w dw3_0 0 rfl)
theorem dX1_placeOf_1 : decode cX1_placeOf 1 = .ok (.ifCond .lt 28, 3) := dop_155 (dn_w dw3_0 1 rfl) rfl
theorem dX1_placeOf_4 : decode cX1_placeOf 4 = .ok (.iload_n 1, 1) := dop_27 (dn_w dw3_0 4 rfl)
theorem dX1_placeOf_5 : decode cX1_placeOf 5 = .ok (.aload_n 0, 1) := dop_42 (dn_w dw3_0 5 rfl)
theorem dX1_placeOf_6 : decode cX1_placeOf 6 = .ok (.getfield 15, 3) := dop_180 (dn_w dw3_0 6 rfl) rfl
theorem dX1_placeOf_9 : decode cX1_placeOf 9 = .ok (.if_icmp .ge 20, 3) := dop_162 (dn_w dw3_0 9 rfl) rfl
theorem dX1_placeOf_12 : decode cX1_placeOf 12 = .ok (.iload_n 2, 1) := dop_28 (dn_w dw3_0 12 rfl)
theorem dX1_placeOf_13 : decode cX1_placeOf 13 = .ok (.ifCond .lt 16, 3) := dop_155 (dn_w dw3_0 13 rfl) rfl
theorem dX1_placeOf_16 : decode cX1_placeOf 16 = .ok (.iload_n 2, 1) := dop_28 (dn_w dw3_1 0 rfl)
theorem dX1_placeOf_17 : decode cX1_placeOf 17 = .ok (.iconst 3, 1) := dop_6 (dn_w dw3_1 1 rfl)
theorem dX1_placeOf_18 : decode cX1_placeOf 18 = .ok (.if_icmp .ge 11, 3) := dop_162 (dn_w dw3_1 2 rfl) rfl
theorem dX1_placeOf_21 : decode cX1_placeOf 21 = .ok (.iload_n 1, 1) := dop_27 (dn_w dw3_1 5 rfl)
theorem dX1_placeOf_22 : decode cX1_placeOf 22 = .ok (.iconst 3, 1) := dop_6 (dn_w dw3_1 6 rfl)
theorem dX1_placeOf_23 : decode cX1_placeOf 23 = .ok (.imul, 1) := dop_104 (dn_w dw3_1 7 rfl)
theorem dX1_placeOf_24 : decode cX1_placeOf 24 = .ok (.iload_n 2, 1) := dop_28 (dn_w dw3_1 8 rfl)
theorem dX1_placeOf_25 : decode cX1_placeOf 25 = .ok (.iadd, 1) := dop_96 (dn_w dw3_1 9 rfl)
theorem dX1_placeOf_26 : decode cX1_placeOf 26 = .ok (.goto 4, 3) := dop_167 (dn_w dw3_1 10 rfl) rfl
theorem dX1_placeOf_29 : decode cX1_placeOf 29 = .ok (.iconst (-1), 1) := dop_2 (dn_w dw3_1 13 rfl)
theorem dX1_placeOf_30 : decode cX1_placeOf 30 = .ok (.ireturn, 1) := dop_172 (dn_w dw3_1 14 rfl)
noncomputable def dt4_3 : List Nat := 79 :: 42 :: 89 :: 180 :: 0 :: 15 :: 4 :: 96 :: 181 :: 0 :: 15 :: 177 :: []
noncomputable def dt4_2 : List Nat := 96 :: 28 :: 79 :: 42 :: 180 :: 0 :: 11 :: 42 :: 180 :: 0 :: 15 :: 6 :: 104 :: 5 :: 96 :: 29 :: dt4_3
noncomputable def dt4_1 : List Nat := 15 :: 6 :: 104 :: 27 :: 79 :: 42 :: 180 :: 0 :: 11 :: 42 :: 180 :: 0 :: 15 :: 6 :: 104 :: 4 :: dt4_2
noncomputable def dt4_0 : List Nat := 42 :: 180 :: 0 :: 15 :: 16 :: 20 :: 162 :: 0 :: 53 :: 42 :: 180 :: 0 :: 11 :: 42 :: 180 :: 0 :: dt4_1
theorem dw4_0 : dn cX1_addRow 0 = dt4_0 := by decide +kernel
theorem dw4_1 : dn cX1_addRow 16 = dt4_1 := dn_w dw4_0 16 rfl
theorem dw4_2 : dn cX1_addRow 32 = dt4_2 := dn_w dw4_1 16 rfl
theorem dw4_3 : dn cX1_addRow 48 = dt4_3 := dn_w dw4_2 16 rfl
theorem dX1_addRow_0 : decode cX1_addRow 0 = .ok (.aload_n 0, 1) := dop_42 (dn_w dw4_0 0 rfl)
theorem dX1_addRow_1 : decode cX1_addRow 1 = .ok (.getfield 15, 3) := dop_180 (dn_w dw4_0 1 rfl) rfl
theorem dX1_addRow_4 : decode cX1_addRow 4 = .ok (.bipush 20, 2) := dop_16 (dn_w dw4_0 4 rfl) rfl
theorem dX1_addRow_6 : decode cX1_addRow 6 = .ok (.if_icmp .ge 53, 3) := dop_162 (dn_w dw4_0 6 rfl) rfl
theorem dX1_addRow_9 : decode cX1_addRow 9 = .ok (.aload_n 0, 1) := dop_42 (dn_w dw4_0 9 rfl)
theorem dX1_addRow_10 : decode cX1_addRow 10 = .ok (.getfield 11, 3) := dop_180 (dn_w dw4_0 10 rfl) rfl
theorem dX1_addRow_13 : decode cX1_addRow 13 = .ok (.aload_n 0, 1) := dop_42 (dn_w dw4_0 13 rfl)
theorem dX1_addRow_14 : decode cX1_addRow 14 = .ok (.getfield 15, 3) := dop_180 (dn_w dw4_0 14 rfl) rfl
theorem dX1_addRow_17 : decode cX1_addRow 17 = .ok (.iconst 3, 1) := dop_6 (dn_w dw4_1 1 rfl)
theorem dX1_addRow_18 : decode cX1_addRow 18 = .ok (.imul, 1) := dop_104 (dn_w dw4_1 2 rfl)
theorem dX1_addRow_19 : decode cX1_addRow 19 = .ok (.iload_n 1, 1) := dop_27 (dn_w dw4_1 3 rfl)
theorem dX1_addRow_20 : decode cX1_addRow 20 = .ok (.iastore, 1) := dop_79 (dn_w dw4_1 4 rfl)
theorem dX1_addRow_21 : decode cX1_addRow 21 = .ok (.aload_n 0, 1) := dop_42 (dn_w dw4_1 5 rfl)
theorem dX1_addRow_22 : decode cX1_addRow 22 = .ok (.getfield 11, 3) := dop_180 (dn_w dw4_1 6 rfl) rfl
theorem dX1_addRow_25 : decode cX1_addRow 25 = .ok (.aload_n 0, 1) := dop_42 (dn_w dw4_1 9 rfl)
theorem dX1_addRow_26 : decode cX1_addRow 26 = .ok (.getfield 15, 3) := dop_180 (dn_w dw4_1 10 rfl) rfl
theorem dX1_addRow_29 : decode cX1_addRow 29 = .ok (.iconst 3, 1) := dop_6 (dn_w dw4_1 13 rfl)
theorem dX1_addRow_30 : decode cX1_addRow 30 = .ok (.imul, 1) := dop_104 (dn_w dw4_1 14 rfl)
theorem dX1_addRow_31 : decode cX1_addRow 31 = .ok (.iconst 1, 1) := dop_4 (dn_w dw4_1 15 rfl)
theorem dX1_addRow_32 : decode cX1_addRow 32 = .ok (.iadd, 1) := dop_96 (dn_w dw4_2 0 rfl)
theorem dX1_addRow_33 : decode cX1_addRow 33 = .ok (.iload_n 2, 1) := dop_28 (dn_w dw4_2 1 rfl)
theorem dX1_addRow_34 : decode cX1_addRow 34 = .ok (.iastore, 1) := dop_79 (dn_w dw4_2 2 rfl)
theorem dX1_addRow_35 : decode cX1_addRow 35 = .ok (.aload_n 0, 1) := dop_42 (dn_w dw4_2 3 rfl)
theorem dX1_addRow_36 : decode cX1_addRow 36 = .ok (.getfield 11, 3) := dop_180 (dn_w dw4_2 4 rfl) rfl
theorem dX1_addRow_39 : decode cX1_addRow 39 = .ok (.aload_n 0, 1) := dop_42 (dn_w dw4_2 7 rfl)
theorem dX1_addRow_40 : decode cX1_addRow 40 = .ok (.getfield 15, 3) := dop_180 (dn_w dw4_2 8 rfl) rfl
theorem dX1_addRow_43 : decode cX1_addRow 43 = .ok (.iconst 3, 1) := dop_6 (dn_w dw4_2 11 rfl)
theorem dX1_addRow_44 : decode cX1_addRow 44 = .ok (.imul, 1) := dop_104 (dn_w dw4_2 12 rfl)
theorem dX1_addRow_45 : decode cX1_addRow 45 = .ok (.iconst 2, 1) := dop_5 (dn_w dw4_2 13 rfl)
theorem dX1_addRow_46 : decode cX1_addRow 46 = .ok (.iadd, 1) := dop_96 (dn_w dw4_2 14 rfl)
theorem dX1_addRow_47 : decode cX1_addRow 47 = .ok (.iload_n 3, 1) := dop_29 (dn_w dw4_2 15 rfl)
theorem dX1_addRow_48 : decode cX1_addRow 48 = .ok (.iastore, 1) := dop_79 (dn_w dw4_3 0 rfl)
theorem dX1_addRow_49 : decode cX1_addRow 49 = .ok (.aload_n 0, 1) := dop_42 (dn_w dw4_3 1 rfl)
theorem dX1_addRow_50 : decode cX1_addRow 50 = .ok (.dup, 1) := dop_89 (dn_w dw4_3 2 rfl)
theorem dX1_addRow_51 : decode cX1_addRow 51 = .ok (.getfield 15, 3) := dop_180 (dn_w dw4_3 3 rfl) rfl
theorem dX1_addRow_54 : decode cX1_addRow 54 = .ok (.iconst 1, 1) := dop_4 (dn_w dw4_3 6 rfl)
theorem dX1_addRow_55 : decode cX1_addRow 55 = .ok (.iadd, 1) := dop_96 (dn_w dw4_3 7 rfl)
theorem dX1_addRow_56 : decode cX1_addRow 56 = .ok (.putfield 15, 3) := dop_181 (dn_w dw4_3 8 rfl) rfl
theorem dX1_addRow_59 : decode cX1_addRow 59 = .ok (.return_, 1) := dop_177 (dn_w dw4_3 11 rfl)
noncomputable def dt5_3 : List Nat := 160 :: 0 :: 7 :: 4 :: 167 :: 0 :: 4 :: 3 :: 172 :: []
noncomputable def dt5_2 : List Nat := 46 :: 29 :: 160 :: 0 :: 21 :: 42 :: 180 :: 0 :: 11 :: 21 :: 5 :: 5 :: 96 :: 46 :: 21 :: 4 :: dt5_3
noncomputable def dt5_1 : List Nat := 11 :: 21 :: 5 :: 46 :: 28 :: 160 :: 0 :: 34 :: 42 :: 180 :: 0 :: 11 :: 21 :: 5 :: 4 :: 96 :: dt5_2
noncomputable def dt5_0 : List Nat := 42 :: 27 :: 3 :: 182 :: 0 :: 19 :: 54 :: 5 :: 21 :: 5 :: 155 :: 0 :: 45 :: 42 :: 180 :: 0 :: dt5_1
theorem dw5_0 : dn cX1_isRow 0 = dt5_0 := by decide +kernel
theorem dw5_1 : dn cX1_isRow 16 = dt5_1 := dn_w dw5_0 16 rfl
theorem dw5_2 : dn cX1_isRow 32 = dt5_2 := dn_w dw5_1 16 rfl
theorem dw5_3 : dn cX1_isRow 48 = dt5_3 := dn_w dw5_2 16 rfl
theorem dX1_isRow_0 : decode cX1_isRow 0 = .ok (.aload_n 0, 1) := dop_42 (dn_w dw5_0 0 rfl)
theorem dX1_isRow_1 : decode cX1_isRow 1 = .ok (.iload_n 1, 1) := dop_27 (dn_w dw5_0 1 rfl)
theorem dX1_isRow_2 : decode cX1_isRow 2 = .ok (.iconst 0, 1) := dop_3 (dn_w dw5_0 2 rfl)
theorem dX1_isRow_3 : decode cX1_isRow 3 = .ok (.invokevirtual 19, 3) := dop_182 (dn_w dw5_0 3 rfl) rfl
theorem dX1_isRow_6 : decode cX1_isRow 6 = .ok (.istore 5, 2) := dop_54 (dn_w dw5_0 6 rfl)
theorem dX1_isRow_8 : decode cX1_isRow 8 = .ok (.iload 5, 2) := dop_21 (dn_w dw5_0 8 rfl)
theorem dX1_isRow_10 : decode cX1_isRow 10 = .ok (.ifCond .lt 45, 3) := dop_155 (dn_w dw5_0 10 rfl) rfl
theorem dX1_isRow_13 : decode cX1_isRow 13 = .ok (.aload_n 0, 1) := dop_42 (dn_w dw5_0 13 rfl)
theorem dX1_isRow_14 : decode cX1_isRow 14 = .ok (.getfield 11, 3) := dop_180 (dn_w dw5_0 14 rfl) rfl
theorem dX1_isRow_17 : decode cX1_isRow 17 = .ok (.iload 5, 2) := dop_21 (dn_w dw5_1 1 rfl)
theorem dX1_isRow_19 : decode cX1_isRow 19 = .ok (.iaload, 1) := dop_46 (dn_w dw5_1 3 rfl)
theorem dX1_isRow_20 : decode cX1_isRow 20 = .ok (.iload_n 2, 1) := dop_28 (dn_w dw5_1 4 rfl)
theorem dX1_isRow_21 : decode cX1_isRow 21 = .ok (.if_icmp .ne 34, 3) := dop_160 (dn_w dw5_1 5 rfl) rfl
theorem dX1_isRow_24 : decode cX1_isRow 24 = .ok (.aload_n 0, 1) := dop_42 (dn_w dw5_1 8 rfl)
theorem dX1_isRow_25 : decode cX1_isRow 25 = .ok (.getfield 11, 3) := dop_180 (dn_w dw5_1 9 rfl) rfl
theorem dX1_isRow_28 : decode cX1_isRow 28 = .ok (.iload 5, 2) := dop_21 (dn_w dw5_1 12 rfl)
theorem dX1_isRow_30 : decode cX1_isRow 30 = .ok (.iconst 1, 1) := dop_4 (dn_w dw5_1 14 rfl)
theorem dX1_isRow_31 : decode cX1_isRow 31 = .ok (.iadd, 1) := dop_96 (dn_w dw5_1 15 rfl)
theorem dX1_isRow_32 : decode cX1_isRow 32 = .ok (.iaload, 1) := dop_46 (dn_w dw5_2 0 rfl)
theorem dX1_isRow_33 : decode cX1_isRow 33 = .ok (.iload_n 3, 1) := dop_29 (dn_w dw5_2 1 rfl)
theorem dX1_isRow_34 : decode cX1_isRow 34 = .ok (.if_icmp .ne 21, 3) := dop_160 (dn_w dw5_2 2 rfl) rfl
theorem dX1_isRow_37 : decode cX1_isRow 37 = .ok (.aload_n 0, 1) := dop_42 (dn_w dw5_2 5 rfl)
theorem dX1_isRow_38 : decode cX1_isRow 38 = .ok (.getfield 11, 3) := dop_180 (dn_w dw5_2 6 rfl) rfl
theorem dX1_isRow_41 : decode cX1_isRow 41 = .ok (.iload 5, 2) := dop_21 (dn_w dw5_2 9 rfl)
theorem dX1_isRow_43 : decode cX1_isRow 43 = .ok (.iconst 2, 1) := dop_5 (dn_w dw5_2 11 rfl)
theorem dX1_isRow_44 : decode cX1_isRow 44 = .ok (.iadd, 1) := dop_96 (dn_w dw5_2 12 rfl)
theorem dX1_isRow_45 : decode cX1_isRow 45 = .ok (.iaload, 1) := dop_46 (dn_w dw5_2 13 rfl)
theorem dX1_isRow_46 : decode cX1_isRow 46 = .ok (.iload 4, 2) := dop_21 (dn_w dw5_2 14 rfl)
theorem dX1_isRow_48 : decode cX1_isRow 48 = .ok (.if_icmp .ne 7, 3) := dop_160 (dn_w dw5_3 0 rfl) rfl
theorem dX1_isRow_51 : decode cX1_isRow 51 = .ok (.iconst 1, 1) := dop_4 (dn_w dw5_3 3 rfl)
theorem dX1_isRow_52 : decode cX1_isRow 52 = .ok (.goto 4, 3) := dop_167 (dn_w dw5_3 4 rfl) rfl
theorem dX1_isRow_55 : decode cX1_isRow 55 = .ok (.iconst 0, 1) := dop_3 (dn_w dw5_3 7 rfl)
theorem dX1_isRow_56 : decode cX1_isRow 56 = .ok (.ireturn, 1) := dop_172 (dn_w dw5_3 8 rfl)
noncomputable def dt6_8 : List Nat := 0 :: 65 :: 177 :: []
noncomputable def dt6_7 : List Nat := 0 :: 57 :: 181 :: 0 :: 58 :: 178 :: 0 :: 62 :: 3 :: 42 :: 180 :: 0 :: 46 :: 3 :: 7 :: 184 :: dt6_8
noncomputable def dt6_6 : List Nat := 42 :: 3 :: 181 :: 0 :: 49 :: 42 :: 4 :: 181 :: 0 :: 52 :: 42 :: 187 :: 0 :: 55 :: 89 :: 183 :: dt6_7
noncomputable def dt6_5 : List Nat := 40 :: 42 :: 16 :: 40 :: 188 :: 10 :: 181 :: 0 :: 43 :: 42 :: 7 :: 188 :: 10 :: 181 :: 0 :: 46 :: dt6_6
noncomputable def dt6_4 : List Nat := 33 :: 42 :: 16 :: 40 :: 188 :: 10 :: 181 :: 0 :: 37 :: 42 :: 16 :: 40 :: 188 :: 10 :: 181 :: 0 :: dt6_5
noncomputable def dt6_3 : List Nat := 10 :: 181 :: 0 :: 27 :: 42 :: 16 :: 8 :: 188 :: 10 :: 181 :: 0 :: 30 :: 42 :: 3 :: 181 :: 0 :: dt6_4
noncomputable def dt6_2 : List Nat := 10 :: 181 :: 0 :: 21 :: 42 :: 16 :: 8 :: 188 :: 10 :: 181 :: 0 :: 24 :: 42 :: 16 :: 8 :: 188 :: dt6_3
noncomputable def dt6_1 : List Nat := 10 :: 181 :: 0 :: 15 :: 42 :: 16 :: 8 :: 188 :: 10 :: 181 :: 0 :: 18 :: 42 :: 16 :: 8 :: 188 :: dt6_2
noncomputable def dt6_0 : List Nat := 42 :: 183 :: 0 :: 3 :: 42 :: 16 :: 8 :: 188 :: 10 :: 181 :: 0 :: 9 :: 42 :: 16 :: 8 :: 188 :: dt6_1
theorem dw6_0 : dn cX2_init 0 = dt6_0 := by decide +kernel
theorem dw6_1 : dn cX2_init 16 = dt6_1 := dn_w dw6_0 16 rfl
theorem dw6_2 : dn cX2_init 32 = dt6_2 := dn_w dw6_1 16 rfl
theorem dw6_3 : dn cX2_init 48 = dt6_3 := dn_w dw6_2 16 rfl
theorem dw6_4 : dn cX2_init 64 = dt6_4 := dn_w dw6_3 16 rfl
theorem dw6_5 : dn cX2_init 80 = dt6_5 := dn_w dw6_4 16 rfl
theorem dw6_6 : dn cX2_init 96 = dt6_6 := dn_w dw6_5 16 rfl
theorem dw6_7 : dn cX2_init 112 = dt6_7 := dn_w dw6_6 16 rfl
theorem dw6_8 : dn cX2_init 128 = dt6_8 := dn_w dw6_7 16 rfl
theorem dX2_init_0 : decode cX2_init 0 = .ok (.aload_n 0, 1) := dop_42 (dn_w dw6_0 0 rfl)
theorem dX2_init_1 : decode cX2_init 1 = .ok (.invokespecial 3, 3) := dop_183 (dn_w dw6_0 1 rfl) rfl
theorem dX2_init_4 : decode cX2_init 4 = .ok (.aload_n 0, 1) := dop_42 (dn_w dw6_0 4 rfl)
theorem dX2_init_5 : decode cX2_init 5 = .ok (.bipush 8, 2) := dop_16 (dn_w dw6_0 5 rfl) rfl
theorem dX2_init_7 : decode cX2_init 7 = .ok (.newarray .int, 2) := by decide +kernel
theorem dX2_init_9 : decode cX2_init 9 = .ok (.putfield 9, 3) := dop_181 (dn_w dw6_0 9 rfl) rfl
theorem dX2_init_12 : decode cX2_init 12 = .ok (.aload_n 0, 1) := dop_42 (dn_w dw6_0 12 rfl)
theorem dX2_init_13 : decode cX2_init 13 = .ok (.bipush 8, 2) := dop_16 (dn_w dw6_0 13 rfl) rfl
theorem dX2_init_15 : decode cX2_init 15 = .ok (.newarray .int, 2) := by decide +kernel
theorem dX2_init_17 : decode cX2_init 17 = .ok (.putfield 15, 3) := dop_181 (dn_w dw6_1 1 rfl) rfl
theorem dX2_init_20 : decode cX2_init 20 = .ok (.aload_n 0, 1) := dop_42 (dn_w dw6_1 4 rfl)
theorem dX2_init_21 : decode cX2_init 21 = .ok (.bipush 8, 2) := dop_16 (dn_w dw6_1 5 rfl) rfl
theorem dX2_init_23 : decode cX2_init 23 = .ok (.newarray .int, 2) := by decide +kernel
theorem dX2_init_25 : decode cX2_init 25 = .ok (.putfield 18, 3) := dop_181 (dn_w dw6_1 9 rfl) rfl
theorem dX2_init_28 : decode cX2_init 28 = .ok (.aload_n 0, 1) := dop_42 (dn_w dw6_1 12 rfl)
theorem dX2_init_29 : decode cX2_init 29 = .ok (.bipush 8, 2) := dop_16 (dn_w dw6_1 13 rfl) rfl
theorem dX2_init_31 : decode cX2_init 31 = .ok (.newarray .int, 2) := by decide +kernel
theorem dX2_init_33 : decode cX2_init 33 = .ok (.putfield 21, 3) := dop_181 (dn_w dw6_2 1 rfl) rfl
theorem dX2_init_36 : decode cX2_init 36 = .ok (.aload_n 0, 1) := dop_42 (dn_w dw6_2 4 rfl)
theorem dX2_init_37 : decode cX2_init 37 = .ok (.bipush 8, 2) := dop_16 (dn_w dw6_2 5 rfl) rfl
theorem dX2_init_39 : decode cX2_init 39 = .ok (.newarray .int, 2) := by decide +kernel
theorem dX2_init_41 : decode cX2_init 41 = .ok (.putfield 24, 3) := dop_181 (dn_w dw6_2 9 rfl) rfl
theorem dX2_init_44 : decode cX2_init 44 = .ok (.aload_n 0, 1) := dop_42 (dn_w dw6_2 12 rfl)
theorem dX2_init_45 : decode cX2_init 45 = .ok (.bipush 8, 2) := dop_16 (dn_w dw6_2 13 rfl) rfl
theorem dX2_init_47 : decode cX2_init 47 = .ok (.newarray .int, 2) := by decide +kernel
theorem dX2_init_49 : decode cX2_init 49 = .ok (.putfield 27, 3) := dop_181 (dn_w dw6_3 1 rfl) rfl
theorem dX2_init_52 : decode cX2_init 52 = .ok (.aload_n 0, 1) := dop_42 (dn_w dw6_3 4 rfl)
theorem dX2_init_53 : decode cX2_init 53 = .ok (.bipush 8, 2) := dop_16 (dn_w dw6_3 5 rfl) rfl
theorem dX2_init_55 : decode cX2_init 55 = .ok (.newarray .int, 2) := by decide +kernel
theorem dX2_init_57 : decode cX2_init 57 = .ok (.putfield 30, 3) := dop_181 (dn_w dw6_3 9 rfl) rfl
theorem dX2_init_60 : decode cX2_init 60 = .ok (.aload_n 0, 1) := dop_42 (dn_w dw6_3 12 rfl)
theorem dX2_init_61 : decode cX2_init 61 = .ok (.iconst 0, 1) := dop_3 (dn_w dw6_3 13 rfl)
theorem dX2_init_62 : decode cX2_init 62 = .ok (.putfield 33, 3) := dop_181 (dn_w dw6_3 14 rfl) rfl
theorem dX2_init_65 : decode cX2_init 65 = .ok (.aload_n 0, 1) := dop_42 (dn_w dw6_4 1 rfl)
theorem dX2_init_66 : decode cX2_init 66 = .ok (.bipush 40, 2) := dop_16 (dn_w dw6_4 2 rfl) rfl
theorem dX2_init_68 : decode cX2_init 68 = .ok (.newarray .int, 2) := by decide +kernel
theorem dX2_init_70 : decode cX2_init 70 = .ok (.putfield 37, 3) := dop_181 (dn_w dw6_4 6 rfl) rfl
theorem dX2_init_73 : decode cX2_init 73 = .ok (.aload_n 0, 1) := dop_42 (dn_w dw6_4 9 rfl)
theorem dX2_init_74 : decode cX2_init 74 = .ok (.bipush 40, 2) := dop_16 (dn_w dw6_4 10 rfl) rfl
theorem dX2_init_76 : decode cX2_init 76 = .ok (.newarray .int, 2) := by decide +kernel
theorem dX2_init_78 : decode cX2_init 78 = .ok (.putfield 40, 3) := dop_181 (dn_w dw6_4 14 rfl) rfl
theorem dX2_init_81 : decode cX2_init 81 = .ok (.aload_n 0, 1) := dop_42 (dn_w dw6_5 1 rfl)
theorem dX2_init_82 : decode cX2_init 82 = .ok (.bipush 40, 2) := dop_16 (dn_w dw6_5 2 rfl) rfl
theorem dX2_init_84 : decode cX2_init 84 = .ok (.newarray .int, 2) := by decide +kernel
theorem dX2_init_86 : decode cX2_init 86 = .ok (.putfield 43, 3) := dop_181 (dn_w dw6_5 6 rfl) rfl
theorem dX2_init_89 : decode cX2_init 89 = .ok (.aload_n 0, 1) := dop_42 (dn_w dw6_5 9 rfl)
theorem dX2_init_90 : decode cX2_init 90 = .ok (.iconst 4, 1) := dop_7 (dn_w dw6_5 10 rfl)
theorem dX2_init_91 : decode cX2_init 91 = .ok (.newarray .int, 2) := by decide +kernel
theorem dX2_init_93 : decode cX2_init 93 = .ok (.putfield 46, 3) := dop_181 (dn_w dw6_5 13 rfl) rfl
theorem dX2_init_96 : decode cX2_init 96 = .ok (.aload_n 0, 1) := dop_42 (dn_w dw6_6 0 rfl)
theorem dX2_init_97 : decode cX2_init 97 = .ok (.iconst 0, 1) := dop_3 (dn_w dw6_6 1 rfl)
theorem dX2_init_98 : decode cX2_init 98 = .ok (.putfield 49, 3) := dop_181 (dn_w dw6_6 2 rfl) rfl
theorem dX2_init_101 : decode cX2_init 101 = .ok (.aload_n 0, 1) := dop_42 (dn_w dw6_6 5 rfl)
theorem dX2_init_102 : decode cX2_init 102 = .ok (.iconst 1, 1) := dop_4 (dn_w dw6_6 6 rfl)
theorem dX2_init_103 : decode cX2_init 103 = .ok (.putfield 52, 3) := dop_181 (dn_w dw6_6 7 rfl) rfl
theorem dX2_init_106 : decode cX2_init 106 = .ok (.aload_n 0, 1) := dop_42 (dn_w dw6_6 10 rfl)
theorem dX2_init_107 : decode cX2_init 107 = .ok (.new 55, 3) := dop_187 (dn_w dw6_6 11 rfl) rfl
theorem dX2_init_110 : decode cX2_init 110 = .ok (.dup, 1) := dop_89 (dn_w dw6_6 14 rfl)
theorem dX2_init_111 : decode cX2_init 111 = .ok (.invokespecial 57, 3) := dop_183 (dn_w dw6_6 15 rfl) rfl
theorem dX2_init_114 : decode cX2_init 114 = .ok (.putfield 58, 3) := dop_181 (dn_w dw6_7 2 rfl) rfl
theorem dX2_init_117 : decode cX2_init 117 = .ok (.getstatic 62, 3) := dop_178 (dn_w dw6_7 5 rfl) rfl
theorem dX2_init_120 : decode cX2_init 120 = .ok (.iconst 0, 1) := dop_3 (dn_w dw6_7 8 rfl)
theorem dX2_init_121 : decode cX2_init 121 = .ok (.aload_n 0, 1) := dop_42 (dn_w dw6_7 9 rfl)
theorem dX2_init_122 : decode cX2_init 122 = .ok (.getfield 46, 3) := dop_180 (dn_w dw6_7 10 rfl) rfl
theorem dX2_init_125 : decode cX2_init 125 = .ok (.iconst 0, 1) := dop_3 (dn_w dw6_7 13 rfl)
theorem dX2_init_126 : decode cX2_init 126 = .ok (.iconst 4, 1) := dop_7 (dn_w dw6_7 14 rfl)
theorem dX2_init_127 : decode cX2_init 127 = .ok (.invokestatic 65, 3) := dop_184 (dn_w dw6_7 15 rfl) rfl
theorem dX2_init_130 : decode cX2_init 130 = .ok (.return_, 1) := dop_177 (dn_w dw6_8 2 rfl)
noncomputable def dt7_11 : List Nat := 49 :: 181 :: 0 :: 49 :: 42 :: 43 :: 180 :: 0 :: 52 :: 181 :: 0 :: 52 :: 177 :: []
noncomputable def dt7_10 : List Nat := 0 :: 46 :: 3 :: 42 :: 180 :: 0 :: 46 :: 3 :: 7 :: 184 :: 0 :: 65 :: 42 :: 43 :: 180 :: 0 :: dt7_11
noncomputable def dt7_9 : List Nat := 180 :: 0 :: 43 :: 3 :: 42 :: 180 :: 0 :: 43 :: 3 :: 16 :: 40 :: 184 :: 0 :: 65 :: 43 :: 180 :: dt7_10
noncomputable def dt7_8 : List Nat := 43 :: 180 :: 0 :: 40 :: 3 :: 42 :: 180 :: 0 :: 40 :: 3 :: 16 :: 40 :: 184 :: 0 :: 65 :: 43 :: dt7_9
noncomputable def dt7_7 : List Nat := 33 :: 43 :: 180 :: 0 :: 37 :: 3 :: 42 :: 180 :: 0 :: 37 :: 3 :: 16 :: 40 :: 184 :: 0 :: 65 :: dt7_8
noncomputable def dt7_6 : List Nat := 180 :: 0 :: 30 :: 3 :: 16 :: 8 :: 184 :: 0 :: 65 :: 42 :: 43 :: 180 :: 0 :: 33 :: 181 :: 0 :: dt7_7
noncomputable def dt7_5 : List Nat := 42 :: 180 :: 0 :: 27 :: 3 :: 16 :: 8 :: 184 :: 0 :: 65 :: 43 :: 180 :: 0 :: 30 :: 3 :: 42 :: dt7_6
noncomputable def dt7_4 : List Nat := 3 :: 42 :: 180 :: 0 :: 24 :: 3 :: 16 :: 8 :: 184 :: 0 :: 65 :: 43 :: 180 :: 0 :: 27 :: 3 :: dt7_5
noncomputable def dt7_3 : List Nat := 21 :: 3 :: 42 :: 180 :: 0 :: 21 :: 3 :: 16 :: 8 :: 184 :: 0 :: 65 :: 43 :: 180 :: 0 :: 24 :: dt7_4
noncomputable def dt7_2 : List Nat := 0 :: 18 :: 3 :: 42 :: 180 :: 0 :: 18 :: 3 :: 16 :: 8 :: 184 :: 0 :: 65 :: 43 :: 180 :: 0 :: dt7_3
noncomputable def dt7_1 : List Nat := 180 :: 0 :: 15 :: 3 :: 42 :: 180 :: 0 :: 15 :: 3 :: 16 :: 8 :: 184 :: 0 :: 65 :: 43 :: 180 :: dt7_2
noncomputable def dt7_0 : List Nat := 43 :: 180 :: 0 :: 9 :: 3 :: 42 :: 180 :: 0 :: 9 :: 3 :: 16 :: 8 :: 184 :: 0 :: 65 :: 43 :: dt7_1
theorem dw7_0 : dn cX2_copyFrom 0 = dt7_0 := by decide +kernel
theorem dw7_1 : dn cX2_copyFrom 16 = dt7_1 := dn_w dw7_0 16 rfl
theorem dw7_2 : dn cX2_copyFrom 32 = dt7_2 := dn_w dw7_1 16 rfl
theorem dw7_3 : dn cX2_copyFrom 48 = dt7_3 := dn_w dw7_2 16 rfl
theorem dw7_4 : dn cX2_copyFrom 64 = dt7_4 := dn_w dw7_3 16 rfl
theorem dw7_5 : dn cX2_copyFrom 80 = dt7_5 := dn_w dw7_4 16 rfl
theorem dw7_6 : dn cX2_copyFrom 96 = dt7_6 := dn_w dw7_5 16 rfl
theorem dw7_7 : dn cX2_copyFrom 112 = dt7_7 := dn_w dw7_6 16 rfl
theorem dw7_8 : dn cX2_copyFrom 128 = dt7_8 := dn_w dw7_7 16 rfl
theorem dw7_9 : dn cX2_copyFrom 144 = dt7_9 := dn_w dw7_8 16 rfl
theorem dw7_10 : dn cX2_copyFrom 160 = dt7_10 := dn_w dw7_9 16 rfl
theorem dw7_11 : dn cX2_copyFrom 176 = dt7_11 := dn_w dw7_10 16 rfl
theorem dX2_copyFrom_0 : decode cX2_copyFrom 0 = .ok (.aload_n 1, 1) := dop_43 (dn_w dw7_0 0 rfl)
theorem dX2_copyFrom_1 : decode cX2_copyFrom 1 = .ok (.getfield 9, 3) := dop_180 (dn_w dw7_0 1 rfl) rfl
theorem dX2_copyFrom_4 : decode cX2_copyFrom 4 = .ok (.iconst 0, 1) := dop_3 (dn_w dw7_0 4 rfl)
theorem dX2_copyFrom_5 : decode cX2_copyFrom 5 = .ok (.aload_n 0, 1) := dop_42 (dn_w dw7_0 5 rfl)
theorem dX2_copyFrom_6 : decode cX2_copyFrom 6 = .ok (.getfield 9, 3) := dop_180 (dn_w dw7_0 6 rfl) rfl
theorem dX2_copyFrom_9 : decode cX2_copyFrom 9 = .ok (.iconst 0, 1) := dop_3 (dn_w dw7_0 9 rfl)
theorem dX2_copyFrom_10 : decode cX2_copyFrom 10 = .ok (.bipush 8, 2) := dop_16 (dn_w dw7_0 10 rfl) rfl
theorem dX2_copyFrom_12 : decode cX2_copyFrom 12 = .ok (.invokestatic 65, 3) := dop_184 (dn_w dw7_0 12 rfl) rfl
theorem dX2_copyFrom_15 : decode cX2_copyFrom 15 = .ok (.aload_n 1, 1) := dop_43 (dn_w dw7_0 15 rfl)
theorem dX2_copyFrom_16 : decode cX2_copyFrom 16 = .ok (.getfield 15, 3) := dop_180 (dn_w dw7_1 0 rfl) rfl
theorem dX2_copyFrom_19 : decode cX2_copyFrom 19 = .ok (.iconst 0, 1) := dop_3 (dn_w dw7_1 3 rfl)
theorem dX2_copyFrom_20 : decode cX2_copyFrom 20 = .ok (.aload_n 0, 1) := dop_42 (dn_w dw7_1 4 rfl)
theorem dX2_copyFrom_21 : decode cX2_copyFrom 21 = .ok (.getfield 15, 3) := dop_180 (dn_w dw7_1 5 rfl) rfl
theorem dX2_copyFrom_24 : decode cX2_copyFrom 24 = .ok (.iconst 0, 1) := dop_3 (dn_w dw7_1 8 rfl)
theorem dX2_copyFrom_25 : decode cX2_copyFrom 25 = .ok (.bipush 8, 2) := dop_16 (dn_w dw7_1 9 rfl) rfl
theorem dX2_copyFrom_27 : decode cX2_copyFrom 27 = .ok (.invokestatic 65, 3) := dop_184 (dn_w dw7_1 11 rfl) rfl
theorem dX2_copyFrom_30 : decode cX2_copyFrom 30 = .ok (.aload_n 1, 1) := dop_43 (dn_w dw7_1 14 rfl)
theorem dX2_copyFrom_31 : decode cX2_copyFrom 31 = .ok (.getfield 18, 3) := dop_180 (dn_w dw7_1 15 rfl) rfl
theorem dX2_copyFrom_34 : decode cX2_copyFrom 34 = .ok (.iconst 0, 1) := dop_3 (dn_w dw7_2 2 rfl)
theorem dX2_copyFrom_35 : decode cX2_copyFrom 35 = .ok (.aload_n 0, 1) := dop_42 (dn_w dw7_2 3 rfl)
theorem dX2_copyFrom_36 : decode cX2_copyFrom 36 = .ok (.getfield 18, 3) := dop_180 (dn_w dw7_2 4 rfl) rfl
theorem dX2_copyFrom_39 : decode cX2_copyFrom 39 = .ok (.iconst 0, 1) := dop_3 (dn_w dw7_2 7 rfl)
theorem dX2_copyFrom_40 : decode cX2_copyFrom 40 = .ok (.bipush 8, 2) := dop_16 (dn_w dw7_2 8 rfl) rfl
theorem dX2_copyFrom_42 : decode cX2_copyFrom 42 = .ok (.invokestatic 65, 3) := dop_184 (dn_w dw7_2 10 rfl) rfl
theorem dX2_copyFrom_45 : decode cX2_copyFrom 45 = .ok (.aload_n 1, 1) := dop_43 (dn_w dw7_2 13 rfl)
theorem dX2_copyFrom_46 : decode cX2_copyFrom 46 = .ok (.getfield 21, 3) := dop_180 (dn_w dw7_2 14 rfl) rfl
theorem dX2_copyFrom_49 : decode cX2_copyFrom 49 = .ok (.iconst 0, 1) := dop_3 (dn_w dw7_3 1 rfl)
theorem dX2_copyFrom_50 : decode cX2_copyFrom 50 = .ok (.aload_n 0, 1) := dop_42 (dn_w dw7_3 2 rfl)
theorem dX2_copyFrom_51 : decode cX2_copyFrom 51 = .ok (.getfield 21, 3) := dop_180 (dn_w dw7_3 3 rfl) rfl
theorem dX2_copyFrom_54 : decode cX2_copyFrom 54 = .ok (.iconst 0, 1) := dop_3 (dn_w dw7_3 6 rfl)
theorem dX2_copyFrom_55 : decode cX2_copyFrom 55 = .ok (.bipush 8, 2) := dop_16 (dn_w dw7_3 7 rfl) rfl
theorem dX2_copyFrom_57 : decode cX2_copyFrom 57 = .ok (.invokestatic 65, 3) := dop_184 (dn_w dw7_3 9 rfl) rfl
theorem dX2_copyFrom_60 : decode cX2_copyFrom 60 = .ok (.aload_n 1, 1) := dop_43 (dn_w dw7_3 12 rfl)
theorem dX2_copyFrom_61 : decode cX2_copyFrom 61 = .ok (.getfield 24, 3) := dop_180 (dn_w dw7_3 13 rfl) rfl
theorem dX2_copyFrom_64 : decode cX2_copyFrom 64 = .ok (.iconst 0, 1) := dop_3 (dn_w dw7_4 0 rfl)
theorem dX2_copyFrom_65 : decode cX2_copyFrom 65 = .ok (.aload_n 0, 1) := dop_42 (dn_w dw7_4 1 rfl)
theorem dX2_copyFrom_66 : decode cX2_copyFrom 66 = .ok (.getfield 24, 3) := dop_180 (dn_w dw7_4 2 rfl) rfl
theorem dX2_copyFrom_69 : decode cX2_copyFrom 69 = .ok (.iconst 0, 1) := dop_3 (dn_w dw7_4 5 rfl)
theorem dX2_copyFrom_70 : decode cX2_copyFrom 70 = .ok (.bipush 8, 2) := dop_16 (dn_w dw7_4 6 rfl) rfl
theorem dX2_copyFrom_72 : decode cX2_copyFrom 72 = .ok (.invokestatic 65, 3) := dop_184 (dn_w dw7_4 8 rfl) rfl
theorem dX2_copyFrom_75 : decode cX2_copyFrom 75 = .ok (.aload_n 1, 1) := dop_43 (dn_w dw7_4 11 rfl)
theorem dX2_copyFrom_76 : decode cX2_copyFrom 76 = .ok (.getfield 27, 3) := dop_180 (dn_w dw7_4 12 rfl) rfl
theorem dX2_copyFrom_79 : decode cX2_copyFrom 79 = .ok (.iconst 0, 1) := dop_3 (dn_w dw7_4 15 rfl)
theorem dX2_copyFrom_80 : decode cX2_copyFrom 80 = .ok (.aload_n 0, 1) := dop_42 (dn_w dw7_5 0 rfl)
theorem dX2_copyFrom_81 : decode cX2_copyFrom 81 = .ok (.getfield 27, 3) := dop_180 (dn_w dw7_5 1 rfl) rfl
theorem dX2_copyFrom_84 : decode cX2_copyFrom 84 = .ok (.iconst 0, 1) := dop_3 (dn_w dw7_5 4 rfl)
theorem dX2_copyFrom_85 : decode cX2_copyFrom 85 = .ok (.bipush 8, 2) := dop_16 (dn_w dw7_5 5 rfl) rfl
theorem dX2_copyFrom_87 : decode cX2_copyFrom 87 = .ok (.invokestatic 65, 3) := dop_184 (dn_w dw7_5 7 rfl) rfl
theorem dX2_copyFrom_90 : decode cX2_copyFrom 90 = .ok (.aload_n 1, 1) := dop_43 (dn_w dw7_5 10 rfl)
theorem dX2_copyFrom_91 : decode cX2_copyFrom 91 = .ok (.getfield 30, 3) := dop_180 (dn_w dw7_5 11 rfl) rfl
theorem dX2_copyFrom_94 : decode cX2_copyFrom 94 = .ok (.iconst 0, 1) := dop_3 (dn_w dw7_5 14 rfl)
theorem dX2_copyFrom_95 : decode cX2_copyFrom 95 = .ok (.aload_n 0, 1) := dop_42 (dn_w dw7_5 15 rfl)
theorem dX2_copyFrom_96 : decode cX2_copyFrom 96 = .ok (.getfield 30, 3) := dop_180 (dn_w dw7_6 0 rfl) rfl
theorem dX2_copyFrom_99 : decode cX2_copyFrom 99 = .ok (.iconst 0, 1) := dop_3 (dn_w dw7_6 3 rfl)
theorem dX2_copyFrom_100 : decode cX2_copyFrom 100 = .ok (.bipush 8, 2) := dop_16 (dn_w dw7_6 4 rfl) rfl
theorem dX2_copyFrom_102 : decode cX2_copyFrom 102 = .ok (.invokestatic 65, 3) := dop_184 (dn_w dw7_6 6 rfl) rfl
theorem dX2_copyFrom_105 : decode cX2_copyFrom 105 = .ok (.aload_n 0, 1) := dop_42 (dn_w dw7_6 9 rfl)
theorem dX2_copyFrom_106 : decode cX2_copyFrom 106 = .ok (.aload_n 1, 1) := dop_43 (dn_w dw7_6 10 rfl)
theorem dX2_copyFrom_107 : decode cX2_copyFrom 107 = .ok (.getfield 33, 3) := dop_180 (dn_w dw7_6 11 rfl) rfl
theorem dX2_copyFrom_110 : decode cX2_copyFrom 110 = .ok (.putfield 33, 3) := dop_181 (dn_w dw7_6 14 rfl) rfl
theorem dX2_copyFrom_113 : decode cX2_copyFrom 113 = .ok (.aload_n 1, 1) := dop_43 (dn_w dw7_7 1 rfl)
theorem dX2_copyFrom_114 : decode cX2_copyFrom 114 = .ok (.getfield 37, 3) := dop_180 (dn_w dw7_7 2 rfl) rfl
theorem dX2_copyFrom_117 : decode cX2_copyFrom 117 = .ok (.iconst 0, 1) := dop_3 (dn_w dw7_7 5 rfl)
theorem dX2_copyFrom_118 : decode cX2_copyFrom 118 = .ok (.aload_n 0, 1) := dop_42 (dn_w dw7_7 6 rfl)
theorem dX2_copyFrom_119 : decode cX2_copyFrom 119 = .ok (.getfield 37, 3) := dop_180 (dn_w dw7_7 7 rfl) rfl
theorem dX2_copyFrom_122 : decode cX2_copyFrom 122 = .ok (.iconst 0, 1) := dop_3 (dn_w dw7_7 10 rfl)
theorem dX2_copyFrom_123 : decode cX2_copyFrom 123 = .ok (.bipush 40, 2) := dop_16 (dn_w dw7_7 11 rfl) rfl
theorem dX2_copyFrom_125 : decode cX2_copyFrom 125 = .ok (.invokestatic 65, 3) := dop_184 (dn_w dw7_7 13 rfl) rfl
theorem dX2_copyFrom_128 : decode cX2_copyFrom 128 = .ok (.aload_n 1, 1) := dop_43 (dn_w dw7_8 0 rfl)
theorem dX2_copyFrom_129 : decode cX2_copyFrom 129 = .ok (.getfield 40, 3) := dop_180 (dn_w dw7_8 1 rfl) rfl
theorem dX2_copyFrom_132 : decode cX2_copyFrom 132 = .ok (.iconst 0, 1) := dop_3 (dn_w dw7_8 4 rfl)
theorem dX2_copyFrom_133 : decode cX2_copyFrom 133 = .ok (.aload_n 0, 1) := dop_42 (dn_w dw7_8 5 rfl)
theorem dX2_copyFrom_134 : decode cX2_copyFrom 134 = .ok (.getfield 40, 3) := dop_180 (dn_w dw7_8 6 rfl) rfl
theorem dX2_copyFrom_137 : decode cX2_copyFrom 137 = .ok (.iconst 0, 1) := dop_3 (dn_w dw7_8 9 rfl)
theorem dX2_copyFrom_138 : decode cX2_copyFrom 138 = .ok (.bipush 40, 2) := dop_16 (dn_w dw7_8 10 rfl) rfl
theorem dX2_copyFrom_140 : decode cX2_copyFrom 140 = .ok (.invokestatic 65, 3) := dop_184 (dn_w dw7_8 12 rfl) rfl
theorem dX2_copyFrom_143 : decode cX2_copyFrom 143 = .ok (.aload_n 1, 1) := dop_43 (dn_w dw7_8 15 rfl)
theorem dX2_copyFrom_144 : decode cX2_copyFrom 144 = .ok (.getfield 43, 3) := dop_180 (dn_w dw7_9 0 rfl) rfl
theorem dX2_copyFrom_147 : decode cX2_copyFrom 147 = .ok (.iconst 0, 1) := dop_3 (dn_w dw7_9 3 rfl)
theorem dX2_copyFrom_148 : decode cX2_copyFrom 148 = .ok (.aload_n 0, 1) := dop_42 (dn_w dw7_9 4 rfl)
theorem dX2_copyFrom_149 : decode cX2_copyFrom 149 = .ok (.getfield 43, 3) := dop_180 (dn_w dw7_9 5 rfl) rfl
theorem dX2_copyFrom_152 : decode cX2_copyFrom 152 = .ok (.iconst 0, 1) := dop_3 (dn_w dw7_9 8 rfl)
theorem dX2_copyFrom_153 : decode cX2_copyFrom 153 = .ok (.bipush 40, 2) := dop_16 (dn_w dw7_9 9 rfl) rfl
theorem dX2_copyFrom_155 : decode cX2_copyFrom 155 = .ok (.invokestatic 65, 3) := dop_184 (dn_w dw7_9 11 rfl) rfl
theorem dX2_copyFrom_158 : decode cX2_copyFrom 158 = .ok (.aload_n 1, 1) := dop_43 (dn_w dw7_9 14 rfl)
theorem dX2_copyFrom_159 : decode cX2_copyFrom 159 = .ok (.getfield 46, 3) := dop_180 (dn_w dw7_9 15 rfl) rfl
theorem dX2_copyFrom_162 : decode cX2_copyFrom 162 = .ok (.iconst 0, 1) := dop_3 (dn_w dw7_10 2 rfl)
theorem dX2_copyFrom_163 : decode cX2_copyFrom 163 = .ok (.aload_n 0, 1) := dop_42 (dn_w dw7_10 3 rfl)
theorem dX2_copyFrom_164 : decode cX2_copyFrom 164 = .ok (.getfield 46, 3) := dop_180 (dn_w dw7_10 4 rfl) rfl
theorem dX2_copyFrom_167 : decode cX2_copyFrom 167 = .ok (.iconst 0, 1) := dop_3 (dn_w dw7_10 7 rfl)
theorem dX2_copyFrom_168 : decode cX2_copyFrom 168 = .ok (.iconst 4, 1) := dop_7 (dn_w dw7_10 8 rfl)
theorem dX2_copyFrom_169 : decode cX2_copyFrom 169 = .ok (.invokestatic 65, 3) := dop_184 (dn_w dw7_10 9 rfl) rfl
theorem dX2_copyFrom_172 : decode cX2_copyFrom 172 = .ok (.aload_n 0, 1) := dop_42 (dn_w dw7_10 12 rfl)
theorem dX2_copyFrom_173 : decode cX2_copyFrom 173 = .ok (.aload_n 1, 1) := dop_43 (dn_w dw7_10 13 rfl)
theorem dX2_copyFrom_174 : decode cX2_copyFrom 174 = .ok (.getfield 49, 3) := dop_180 (dn_w dw7_10 14 rfl) rfl
theorem dX2_copyFrom_177 : decode cX2_copyFrom 177 = .ok (.putfield 49, 3) := dop_181 (dn_w dw7_11 1 rfl) rfl
theorem dX2_copyFrom_180 : decode cX2_copyFrom 180 = .ok (.aload_n 0, 1) := dop_42 (dn_w dw7_11 4 rfl)
theorem dX2_copyFrom_181 : decode cX2_copyFrom 181 = .ok (.aload_n 1, 1) := dop_43 (dn_w dw7_11 5 rfl)
theorem dX2_copyFrom_182 : decode cX2_copyFrom 182 = .ok (.getfield 52, 3) := dop_180 (dn_w dw7_11 6 rfl) rfl
theorem dX2_copyFrom_185 : decode cX2_copyFrom 185 = .ok (.putfield 52, 3) := dop_181 (dn_w dw7_11 9 rfl) rfl
theorem dX2_copyFrom_188 : decode cX2_copyFrom 188 = .ok (.return_, 1) := dop_177 (dn_w dw7_11 12 rfl)
noncomputable def dt8_4 : List Nat := 181 :: 0 :: 52 :: 177 :: []
noncomputable def dt8_3 : List Nat := 46 :: 3 :: 7 :: 184 :: 0 :: 65 :: 42 :: 3 :: 181 :: 0 :: 49 :: 42 :: 43 :: 180 :: 0 :: 52 :: dt8_4
noncomputable def dt8_2 : List Nat := 3 :: 79 :: 132 :: 2 :: 1 :: 167 :: 255 :: 226 :: 43 :: 180 :: 0 :: 46 :: 3 :: 42 :: 180 :: 0 :: dt8_3
noncomputable def dt8_1 : List Nat := 37 :: 28 :: 3 :: 79 :: 42 :: 180 :: 0 :: 40 :: 28 :: 3 :: 79 :: 42 :: 180 :: 0 :: 43 :: 28 :: dt8_2
noncomputable def dt8_0 : List Nat := 42 :: 3 :: 181 :: 0 :: 33 :: 3 :: 61 :: 28 :: 16 :: 40 :: 162 :: 0 :: 30 :: 42 :: 180 :: 0 :: dt8_1
theorem dw8_0 : dn cX2_becomeEmptyAfter 0 = dt8_0 := by decide +kernel
theorem dw8_1 : dn cX2_becomeEmptyAfter 16 = dt8_1 := dn_w dw8_0 16 rfl
theorem dw8_2 : dn cX2_becomeEmptyAfter 32 = dt8_2 := dn_w dw8_1 16 rfl
theorem dw8_3 : dn cX2_becomeEmptyAfter 48 = dt8_3 := dn_w dw8_2 16 rfl
theorem dw8_4 : dn cX2_becomeEmptyAfter 64 = dt8_4 := dn_w dw8_3 16 rfl
theorem dX2_becomeEmptyAfter_0 : decode cX2_becomeEmptyAfter 0 = .ok (.aload_n 0, 1) := dop_42 (dn_w dw8_0 0 rfl)
theorem dX2_becomeEmptyAfter_1 : decode cX2_becomeEmptyAfter 1 = .ok (.iconst 0, 1) := dop_3 (dn_w dw8_0 1 rfl)
theorem dX2_becomeEmptyAfter_2 : decode cX2_becomeEmptyAfter 2 = .ok (.putfield 33, 3) := dop_181 (dn_w dw8_0 2 rfl) rfl
theorem dX2_becomeEmptyAfter_5 : decode cX2_becomeEmptyAfter 5 = .ok (.iconst 0, 1) := dop_3 (dn_w dw8_0 5 rfl)
theorem dX2_becomeEmptyAfter_6 : decode cX2_becomeEmptyAfter 6 = .ok (.istore_n 2, 1) := dop_61 (dn_w dw8_0 6 rfl)
theorem dX2_becomeEmptyAfter_7 : decode cX2_becomeEmptyAfter 7 = .ok (.iload_n 2, 1) := dop_28 (dn_w dw8_0 7 rfl)
theorem dX2_becomeEmptyAfter_8 : decode cX2_becomeEmptyAfter 8 = .ok (.bipush 40, 2) := dop_16 (dn_w dw8_0 8 rfl) rfl
theorem dX2_becomeEmptyAfter_10 : decode cX2_becomeEmptyAfter 10 = .ok (.if_icmp .ge 30, 3) := dop_162 (dn_w dw8_0 10 rfl) rfl
theorem dX2_becomeEmptyAfter_13 : decode cX2_becomeEmptyAfter 13 = .ok (.aload_n 0, 1) := dop_42 (dn_w dw8_0 13 rfl)
theorem dX2_becomeEmptyAfter_14 : decode cX2_becomeEmptyAfter 14 = .ok (.getfield 37, 3) := dop_180 (dn_w dw8_0 14 rfl) rfl
theorem dX2_becomeEmptyAfter_17 : decode cX2_becomeEmptyAfter 17 = .ok (.iload_n 2, 1) := dop_28 (dn_w dw8_1 1 rfl)
theorem dX2_becomeEmptyAfter_18 : decode cX2_becomeEmptyAfter 18 = .ok (.iconst 0, 1) := dop_3 (dn_w dw8_1 2 rfl)
theorem dX2_becomeEmptyAfter_19 : decode cX2_becomeEmptyAfter 19 = .ok (.iastore, 1) := dop_79 (dn_w dw8_1 3 rfl)
theorem dX2_becomeEmptyAfter_20 : decode cX2_becomeEmptyAfter 20 = .ok (.aload_n 0, 1) := dop_42 (dn_w dw8_1 4 rfl)
theorem dX2_becomeEmptyAfter_21 : decode cX2_becomeEmptyAfter 21 = .ok (.getfield 40, 3) := dop_180 (dn_w dw8_1 5 rfl) rfl
theorem dX2_becomeEmptyAfter_24 : decode cX2_becomeEmptyAfter 24 = .ok (.iload_n 2, 1) := dop_28 (dn_w dw8_1 8 rfl)
theorem dX2_becomeEmptyAfter_25 : decode cX2_becomeEmptyAfter 25 = .ok (.iconst 0, 1) := dop_3 (dn_w dw8_1 9 rfl)
theorem dX2_becomeEmptyAfter_26 : decode cX2_becomeEmptyAfter 26 = .ok (.iastore, 1) := dop_79 (dn_w dw8_1 10 rfl)
theorem dX2_becomeEmptyAfter_27 : decode cX2_becomeEmptyAfter 27 = .ok (.aload_n 0, 1) := dop_42 (dn_w dw8_1 11 rfl)
theorem dX2_becomeEmptyAfter_28 : decode cX2_becomeEmptyAfter 28 = .ok (.getfield 43, 3) := dop_180 (dn_w dw8_1 12 rfl) rfl
theorem dX2_becomeEmptyAfter_31 : decode cX2_becomeEmptyAfter 31 = .ok (.iload_n 2, 1) := dop_28 (dn_w dw8_1 15 rfl)
theorem dX2_becomeEmptyAfter_32 : decode cX2_becomeEmptyAfter 32 = .ok (.iconst 0, 1) := dop_3 (dn_w dw8_2 0 rfl)
theorem dX2_becomeEmptyAfter_33 : decode cX2_becomeEmptyAfter 33 = .ok (.iastore, 1) := dop_79 (dn_w dw8_2 1 rfl)
theorem dX2_becomeEmptyAfter_34 : decode cX2_becomeEmptyAfter 34 = .ok (.iinc 2 1, 3) := dop_132 (dn_w dw8_2 2 rfl) rfl
theorem dX2_becomeEmptyAfter_37 : decode cX2_becomeEmptyAfter 37 = .ok (.goto (-30), 3) := dop_167 (dn_w dw8_2 5 rfl) rfl
theorem dX2_becomeEmptyAfter_40 : decode cX2_becomeEmptyAfter 40 = .ok (.aload_n 1, 1) := dop_43 (dn_w dw8_2 8 rfl)
theorem dX2_becomeEmptyAfter_41 : decode cX2_becomeEmptyAfter 41 = .ok (.getfield 46, 3) := dop_180 (dn_w dw8_2 9 rfl) rfl
theorem dX2_becomeEmptyAfter_44 : decode cX2_becomeEmptyAfter 44 = .ok (.iconst 0, 1) := dop_3 (dn_w dw8_2 12 rfl)
theorem dX2_becomeEmptyAfter_45 : decode cX2_becomeEmptyAfter 45 = .ok (.aload_n 0, 1) := dop_42 (dn_w dw8_2 13 rfl)
theorem dX2_becomeEmptyAfter_46 : decode cX2_becomeEmptyAfter 46 = .ok (.getfield 46, 3) := dop_180 (dn_w dw8_2 14 rfl) rfl
theorem dX2_becomeEmptyAfter_49 : decode cX2_becomeEmptyAfter 49 = .ok (.iconst 0, 1) := dop_3 (dn_w dw8_3 1 rfl)
theorem dX2_becomeEmptyAfter_50 : decode cX2_becomeEmptyAfter 50 = .ok (.iconst 4, 1) := dop_7 (dn_w dw8_3 2 rfl)
theorem dX2_becomeEmptyAfter_51 : decode cX2_becomeEmptyAfter 51 = .ok (.invokestatic 65, 3) := dop_184 (dn_w dw8_3 3 rfl) rfl
theorem dX2_becomeEmptyAfter_54 : decode cX2_becomeEmptyAfter 54 = .ok (.aload_n 0, 1) := dop_42 (dn_w dw8_3 6 rfl)
theorem dX2_becomeEmptyAfter_55 : decode cX2_becomeEmptyAfter 55 = .ok (.iconst 0, 1) := dop_3 (dn_w dw8_3 7 rfl)
theorem dX2_becomeEmptyAfter_56 : decode cX2_becomeEmptyAfter 56 = .ok (.putfield 49, 3) := dop_181 (dn_w dw8_3 8 rfl) rfl
theorem dX2_becomeEmptyAfter_59 : decode cX2_becomeEmptyAfter 59 = .ok (.aload_n 0, 1) := dop_42 (dn_w dw8_3 11 rfl)
theorem dX2_becomeEmptyAfter_60 : decode cX2_becomeEmptyAfter 60 = .ok (.aload_n 1, 1) := dop_43 (dn_w dw8_3 12 rfl)
theorem dX2_becomeEmptyAfter_61 : decode cX2_becomeEmptyAfter 61 = .ok (.getfield 52, 3) := dop_180 (dn_w dw8_3 13 rfl) rfl
theorem dX2_becomeEmptyAfter_64 : decode cX2_becomeEmptyAfter 64 = .ok (.putfield 52, 3) := dop_181 (dn_w dw8_4 0 rfl) rfl
theorem dX2_becomeEmptyAfter_67 : decode cX2_becomeEmptyAfter 67 = .ok (.return_, 1) := dop_177 (dn_w dw8_4 3 rfl)
noncomputable def dt9_1 : List Nat := 3 :: 172 :: []
noncomputable def dt9_0 : List Nat := 27 :: 155 :: 0 :: 15 :: 27 :: 42 :: 180 :: 0 :: 33 :: 162 :: 0 :: 7 :: 4 :: 167 :: 0 :: 4 :: dt9_1
theorem dw9_0 : dn cX2_hasChild 0 = dt9_0 := by decide +kernel
theorem dw9_1 : dn cX2_hasChild 16 = dt9_1 := dn_w dw9_0 16 rfl
theorem dX2_hasChild_0 : decode cX2_hasChild 0 = .ok (.iload_n 1, 1) := dop_27 (dn_w dw9_0 0 rfl)
theorem dX2_hasChild_1 : decode cX2_hasChild 1 = .ok (.ifCond .lt 15, 3) := dop_155 (dn_w dw9_0 1 rfl) rfl
theorem dX2_hasChild_4 : decode cX2_hasChild 4 = .ok (.iload_n 1, 1) := dop_27 (dn_w dw9_0 4 rfl)
theorem dX2_hasChild_5 : decode cX2_hasChild 5 = .ok (.aload_n 0, 1) := dop_42 (dn_w dw9_0 5 rfl)
theorem dX2_hasChild_6 : decode cX2_hasChild 6 = .ok (.getfield 33, 3) := dop_180 (dn_w dw9_0 6 rfl) rfl
theorem dX2_hasChild_9 : decode cX2_hasChild 9 = .ok (.if_icmp .ge 7, 3) := dop_162 (dn_w dw9_0 9 rfl) rfl
theorem dX2_hasChild_12 : decode cX2_hasChild 12 = .ok (.iconst 1, 1) := dop_4 (dn_w dw9_0 12 rfl)
theorem dX2_hasChild_13 : decode cX2_hasChild 13 = .ok (.goto 4, 3) := dop_167 (dn_w dw9_0 13 rfl) rfl
theorem dX2_hasChild_16 : decode cX2_hasChild 16 = .ok (.iconst 0, 1) := dop_3 (dn_w dw9_1 0 rfl)
theorem dX2_hasChild_17 : decode cX2_hasChild 17 = .ok (.ireturn, 1) := dop_172 (dn_w dw9_1 1 rfl)
noncomputable def dt10_5 : List Nat := 3 :: 79 :: 42 :: 89 :: 180 :: 0 :: 33 :: 4 :: 96 :: 181 :: 0 :: 33 :: 4 :: 172 :: []
noncomputable def dt10_4 : List Nat := 0 :: 27 :: 42 :: 180 :: 0 :: 33 :: 3 :: 79 :: 42 :: 180 :: 0 :: 30 :: 42 :: 180 :: 0 :: 33 :: dt10_5
noncomputable def dt10_3 : List Nat := 33 :: 21 :: 4 :: 79 :: 42 :: 180 :: 0 :: 24 :: 42 :: 180 :: 0 :: 33 :: 3 :: 79 :: 42 :: 180 :: dt10_4
noncomputable def dt10_2 : List Nat := 180 :: 0 :: 18 :: 42 :: 180 :: 0 :: 33 :: 29 :: 79 :: 42 :: 180 :: 0 :: 21 :: 42 :: 180 :: 0 :: dt10_3
noncomputable def dt10_1 : List Nat := 180 :: 0 :: 33 :: 27 :: 79 :: 42 :: 180 :: 0 :: 15 :: 42 :: 180 :: 0 :: 33 :: 28 :: 79 :: 42 :: dt10_2
noncomputable def dt10_0 : List Nat := 42 :: 180 :: 0 :: 33 :: 16 :: 8 :: 161 :: 0 :: 5 :: 3 :: 172 :: 42 :: 180 :: 0 :: 9 :: 42 :: dt10_1
theorem dw10_0 : dn cX2_addChild 0 = dt10_0 := by decide +kernel
theorem dw10_1 : dn cX2_addChild 16 = dt10_1 := dn_w dw10_0 16 rfl
theorem dw10_2 : dn cX2_addChild 32 = dt10_2 := dn_w dw10_1 16 rfl
theorem dw10_3 : dn cX2_addChild 48 = dt10_3 := dn_w dw10_2 16 rfl
theorem dw10_4 : dn cX2_addChild 64 = dt10_4 := dn_w dw10_3 16 rfl
theorem dw10_5 : dn cX2_addChild 80 = dt10_5 := dn_w dw10_4 16 rfl
theorem dX2_addChild_0 : decode cX2_addChild 0 = .ok (.aload_n 0, 1) := dop_42 (dn_w dw10_0 0 rfl)
theorem dX2_addChild_1 : decode cX2_addChild 1 = .ok (.getfield 33, 3) := dop_180 (dn_w dw10_0 1 rfl) rfl
theorem dX2_addChild_4 : decode cX2_addChild 4 = .ok (.bipush 8, 2) := dop_16 (dn_w dw10_0 4 rfl) rfl
theorem dX2_addChild_6 : decode cX2_addChild 6 = .ok (.if_icmp .lt 5, 3) := dop_161 (dn_w dw10_0 6 rfl) rfl
theorem dX2_addChild_9 : decode cX2_addChild 9 = .ok (.iconst 0, 1) := dop_3 (dn_w dw10_0 9 rfl)
theorem dX2_addChild_10 : decode cX2_addChild 10 = .ok (.ireturn, 1) := dop_172 (dn_w dw10_0 10 rfl)
theorem dX2_addChild_11 : decode cX2_addChild 11 = .ok (.aload_n 0, 1) := dop_42 (dn_w dw10_0 11 rfl)
theorem dX2_addChild_12 : decode cX2_addChild 12 = .ok (.getfield 9, 3) := dop_180 (dn_w dw10_0 12 rfl) rfl
theorem dX2_addChild_15 : decode cX2_addChild 15 = .ok (.aload_n 0, 1) := dop_42 (dn_w dw10_0 15 rfl)
theorem dX2_addChild_16 : decode cX2_addChild 16 = .ok (.getfield 33, 3) := dop_180 (dn_w dw10_1 0 rfl) rfl
theorem dX2_addChild_19 : decode cX2_addChild 19 = .ok (.iload_n 1, 1) := dop_27 (dn_w dw10_1 3 rfl)
theorem dX2_addChild_20 : decode cX2_addChild 20 = .ok (.iastore, 1) := dop_79 (dn_w dw10_1 4 rfl)
theorem dX2_addChild_21 : decode cX2_addChild 21 = .ok (.aload_n 0, 1) := dop_42 (dn_w dw10_1 5 rfl)
theorem dX2_addChild_22 : decode cX2_addChild 22 = .ok (.getfield 15, 3) := dop_180 (dn_w dw10_1 6 rfl) rfl
theorem dX2_addChild_25 : decode cX2_addChild 25 = .ok (.aload_n 0, 1) := dop_42 (dn_w dw10_1 9 rfl)
theorem dX2_addChild_26 : decode cX2_addChild 26 = .ok (.getfield 33, 3) := dop_180 (dn_w dw10_1 10 rfl) rfl
theorem dX2_addChild_29 : decode cX2_addChild 29 = .ok (.iload_n 2, 1) := dop_28 (dn_w dw10_1 13 rfl)
theorem dX2_addChild_30 : decode cX2_addChild 30 = .ok (.iastore, 1) := dop_79 (dn_w dw10_1 14 rfl)
theorem dX2_addChild_31 : decode cX2_addChild 31 = .ok (.aload_n 0, 1) := dop_42 (dn_w dw10_1 15 rfl)
theorem dX2_addChild_32 : decode cX2_addChild 32 = .ok (.getfield 18, 3) := dop_180 (dn_w dw10_2 0 rfl) rfl
theorem dX2_addChild_35 : decode cX2_addChild 35 = .ok (.aload_n 0, 1) := dop_42 (dn_w dw10_2 3 rfl)
theorem dX2_addChild_36 : decode cX2_addChild 36 = .ok (.getfield 33, 3) := dop_180 (dn_w dw10_2 4 rfl) rfl
theorem dX2_addChild_39 : decode cX2_addChild 39 = .ok (.iload_n 3, 1) := dop_29 (dn_w dw10_2 7 rfl)
theorem dX2_addChild_40 : decode cX2_addChild 40 = .ok (.iastore, 1) := dop_79 (dn_w dw10_2 8 rfl)
theorem dX2_addChild_41 : decode cX2_addChild 41 = .ok (.aload_n 0, 1) := dop_42 (dn_w dw10_2 9 rfl)
theorem dX2_addChild_42 : decode cX2_addChild 42 = .ok (.getfield 21, 3) := dop_180 (dn_w dw10_2 10 rfl) rfl
theorem dX2_addChild_45 : decode cX2_addChild 45 = .ok (.aload_n 0, 1) := dop_42 (dn_w dw10_2 13 rfl)
theorem dX2_addChild_46 : decode cX2_addChild 46 = .ok (.getfield 33, 3) := dop_180 (dn_w dw10_2 14 rfl) rfl
theorem dX2_addChild_49 : decode cX2_addChild 49 = .ok (.iload 4, 2) := dop_21 (dn_w dw10_3 1 rfl)
theorem dX2_addChild_51 : decode cX2_addChild 51 = .ok (.iastore, 1) := dop_79 (dn_w dw10_3 3 rfl)
theorem dX2_addChild_52 : decode cX2_addChild 52 = .ok (.aload_n 0, 1) := dop_42 (dn_w dw10_3 4 rfl)
theorem dX2_addChild_53 : decode cX2_addChild 53 = .ok (.getfield 24, 3) := dop_180 (dn_w dw10_3 5 rfl) rfl
theorem dX2_addChild_56 : decode cX2_addChild 56 = .ok (.aload_n 0, 1) := dop_42 (dn_w dw10_3 8 rfl)
theorem dX2_addChild_57 : decode cX2_addChild 57 = .ok (.getfield 33, 3) := dop_180 (dn_w dw10_3 9 rfl) rfl
theorem dX2_addChild_60 : decode cX2_addChild 60 = .ok (.iconst 0, 1) := dop_3 (dn_w dw10_3 12 rfl)
theorem dX2_addChild_61 : decode cX2_addChild 61 = .ok (.iastore, 1) := dop_79 (dn_w dw10_3 13 rfl)
theorem dX2_addChild_62 : decode cX2_addChild 62 = .ok (.aload_n 0, 1) := dop_42 (dn_w dw10_3 14 rfl)
theorem dX2_addChild_63 : decode cX2_addChild 63 = .ok (.getfield 27, 3) := dop_180 (dn_w dw10_3 15 rfl) rfl
theorem dX2_addChild_66 : decode cX2_addChild 66 = .ok (.aload_n 0, 1) := dop_42 (dn_w dw10_4 2 rfl)
theorem dX2_addChild_67 : decode cX2_addChild 67 = .ok (.getfield 33, 3) := dop_180 (dn_w dw10_4 3 rfl) rfl
theorem dX2_addChild_70 : decode cX2_addChild 70 = .ok (.iconst 0, 1) := dop_3 (dn_w dw10_4 6 rfl)
theorem dX2_addChild_71 : decode cX2_addChild 71 = .ok (.iastore, 1) := dop_79 (dn_w dw10_4 7 rfl)
theorem dX2_addChild_72 : decode cX2_addChild 72 = .ok (.aload_n 0, 1) := dop_42 (dn_w dw10_4 8 rfl)
theorem dX2_addChild_73 : decode cX2_addChild 73 = .ok (.getfield 30, 3) := dop_180 (dn_w dw10_4 9 rfl) rfl
theorem dX2_addChild_76 : decode cX2_addChild 76 = .ok (.aload_n 0, 1) := dop_42 (dn_w dw10_4 12 rfl)
theorem dX2_addChild_77 : decode cX2_addChild 77 = .ok (.getfield 33, 3) := dop_180 (dn_w dw10_4 13 rfl) rfl
theorem dX2_addChild_80 : decode cX2_addChild 80 = .ok (.iconst 0, 1) := dop_3 (dn_w dw10_5 0 rfl)
theorem dX2_addChild_81 : decode cX2_addChild 81 = .ok (.iastore, 1) := dop_79 (dn_w dw10_5 1 rfl)
theorem dX2_addChild_82 : decode cX2_addChild 82 = .ok (.aload_n 0, 1) := dop_42 (dn_w dw10_5 2 rfl)
theorem dX2_addChild_83 : decode cX2_addChild 83 = .ok (.dup, 1) := dop_89 (dn_w dw10_5 3 rfl)
theorem dX2_addChild_84 : decode cX2_addChild 84 = .ok (.getfield 33, 3) := dop_180 (dn_w dw10_5 4 rfl) rfl
theorem dX2_addChild_87 : decode cX2_addChild 87 = .ok (.iconst 1, 1) := dop_4 (dn_w dw10_5 7 rfl)
theorem dX2_addChild_88 : decode cX2_addChild 88 = .ok (.iadd, 1) := dop_96 (dn_w dw10_5 8 rfl)
theorem dX2_addChild_89 : decode cX2_addChild 89 = .ok (.putfield 33, 3) := dop_181 (dn_w dw10_5 9 rfl) rfl
theorem dX2_addChild_92 : decode cX2_addChild 92 = .ok (.iconst 1, 1) := dop_4 (dn_w dw10_5 12 rfl)
theorem dX2_addChild_93 : decode cX2_addChild 93 = .ok (.ireturn, 1) := dop_172 (dn_w dw10_5 13 rfl)
noncomputable def dt11_5 : List Nat := 180 :: 0 :: 27 :: 27 :: 46 :: 172 :: 42 :: 180 :: 0 :: 30 :: 27 :: 46 :: 172 :: 2 :: 172 :: []
noncomputable def dt11_4 : List Nat := 172 :: 42 :: 180 :: 0 :: 21 :: 27 :: 46 :: 172 :: 42 :: 180 :: 0 :: 24 :: 27 :: 46 :: 172 :: 42 :: dt11_5
noncomputable def dt11_3 : List Nat := 27 :: 46 :: 172 :: 42 :: 180 :: 0 :: 15 :: 27 :: 46 :: 172 :: 42 :: 180 :: 0 :: 18 :: 27 :: 46 :: dt11_4
noncomputable def dt11_2 : List Nat := 0 :: 0 :: 0 :: 71 :: 0 :: 0 :: 0 :: 78 :: 0 :: 0 :: 0 :: 85 :: 42 :: 180 :: 0 :: 9 :: dt11_3
noncomputable def dt11_1 : List Nat := 0 :: 0 :: 0 :: 43 :: 0 :: 0 :: 0 :: 50 :: 0 :: 0 :: 0 :: 57 :: 0 :: 0 :: 0 :: 64 :: dt11_2
noncomputable def dt11_0 : List Nat := 28 :: 170 :: 0 :: 0 :: 0 :: 0 :: 0 :: 92 :: 0 :: 0 :: 0 :: 0 :: 0 :: 0 :: 0 :: 6 :: dt11_1
theorem dw11_0 : dn cX2_featureOf 0 = dt11_0 := by decide +kernel
theorem dw11_1 : dn cX2_featureOf 16 = dt11_1 := dn_w dw11_0 16 rfl
theorem dw11_2 : dn cX2_featureOf 32 = dt11_2 := dn_w dw11_1 16 rfl
theorem dw11_3 : dn cX2_featureOf 48 = dt11_3 := dn_w dw11_2 16 rfl
theorem dw11_4 : dn cX2_featureOf 64 = dt11_4 := dn_w dw11_3 16 rfl
theorem dw11_5 : dn cX2_featureOf 80 = dt11_5 := dn_w dw11_4 16 rfl
theorem dX2_featureOf_0 : decode cX2_featureOf 0 = .ok (.iload_n 2, 1) := dop_28 (dn_w dw11_0 0 rfl)
theorem dX2_featureOf_1 : decode cX2_featureOf 1 = .ok (.tableswitch 92 0 6 #[43, 50, 57, 64, 71, 78, 85], 43) := by decide +kernel
theorem dX2_featureOf_44 : decode cX2_featureOf 44 = .ok (.aload_n 0, 1) := dop_42 (dn_w dw11_2 12 rfl)
theorem dX2_featureOf_45 : decode cX2_featureOf 45 = .ok (.getfield 9, 3) := dop_180 (dn_w dw11_2 13 rfl) rfl
theorem dX2_featureOf_48 : decode cX2_featureOf 48 = .ok (.iload_n 1, 1) := dop_27 (dn_w dw11_3 0 rfl)
theorem dX2_featureOf_49 : decode cX2_featureOf 49 = .ok (.iaload, 1) := dop_46 (dn_w dw11_3 1 rfl)
theorem dX2_featureOf_50 : decode cX2_featureOf 50 = .ok (.ireturn, 1) := dop_172 (dn_w dw11_3 2 rfl)
theorem dX2_featureOf_51 : decode cX2_featureOf 51 = .ok (.aload_n 0, 1) := dop_42 (dn_w dw11_3 3 rfl)
theorem dX2_featureOf_52 : decode cX2_featureOf 52 = .ok (.getfield 15, 3) := dop_180 (dn_w dw11_3 4 rfl) rfl
theorem dX2_featureOf_55 : decode cX2_featureOf 55 = .ok (.iload_n 1, 1) := dop_27 (dn_w dw11_3 7 rfl)
theorem dX2_featureOf_56 : decode cX2_featureOf 56 = .ok (.iaload, 1) := dop_46 (dn_w dw11_3 8 rfl)
theorem dX2_featureOf_57 : decode cX2_featureOf 57 = .ok (.ireturn, 1) := dop_172 (dn_w dw11_3 9 rfl)
theorem dX2_featureOf_58 : decode cX2_featureOf 58 = .ok (.aload_n 0, 1) := dop_42 (dn_w dw11_3 10 rfl)
theorem dX2_featureOf_59 : decode cX2_featureOf 59 = .ok (.getfield 18, 3) := dop_180 (dn_w dw11_3 11 rfl) rfl
theorem dX2_featureOf_62 : decode cX2_featureOf 62 = .ok (.iload_n 1, 1) := dop_27 (dn_w dw11_3 14 rfl)
theorem dX2_featureOf_63 : decode cX2_featureOf 63 = .ok (.iaload, 1) := dop_46 (dn_w dw11_3 15 rfl)
theorem dX2_featureOf_64 : decode cX2_featureOf 64 = .ok (.ireturn, 1) := dop_172 (dn_w dw11_4 0 rfl)
theorem dX2_featureOf_65 : decode cX2_featureOf 65 = .ok (.aload_n 0, 1) := dop_42 (dn_w dw11_4 1 rfl)
theorem dX2_featureOf_66 : decode cX2_featureOf 66 = .ok (.getfield 21, 3) := dop_180 (dn_w dw11_4 2 rfl) rfl
theorem dX2_featureOf_69 : decode cX2_featureOf 69 = .ok (.iload_n 1, 1) := dop_27 (dn_w dw11_4 5 rfl)
theorem dX2_featureOf_70 : decode cX2_featureOf 70 = .ok (.iaload, 1) := dop_46 (dn_w dw11_4 6 rfl)
theorem dX2_featureOf_71 : decode cX2_featureOf 71 = .ok (.ireturn, 1) := dop_172 (dn_w dw11_4 7 rfl)
theorem dX2_featureOf_72 : decode cX2_featureOf 72 = .ok (.aload_n 0, 1) := dop_42 (dn_w dw11_4 8 rfl)
theorem dX2_featureOf_73 : decode cX2_featureOf 73 = .ok (.getfield 24, 3) := dop_180 (dn_w dw11_4 9 rfl) rfl
theorem dX2_featureOf_76 : decode cX2_featureOf 76 = .ok (.iload_n 1, 1) := dop_27 (dn_w dw11_4 12 rfl)
theorem dX2_featureOf_77 : decode cX2_featureOf 77 = .ok (.iaload, 1) := dop_46 (dn_w dw11_4 13 rfl)
theorem dX2_featureOf_78 : decode cX2_featureOf 78 = .ok (.ireturn, 1) := dop_172 (dn_w dw11_4 14 rfl)
theorem dX2_featureOf_79 : decode cX2_featureOf 79 = .ok (.aload_n 0, 1) := dop_42 (dn_w dw11_4 15 rfl)
theorem dX2_featureOf_80 : decode cX2_featureOf 80 = .ok (.getfield 27, 3) := dop_180 (dn_w dw11_5 0 rfl) rfl
theorem dX2_featureOf_83 : decode cX2_featureOf 83 = .ok (.iload_n 1, 1) := dop_27 (dn_w dw11_5 3 rfl)
theorem dX2_featureOf_84 : decode cX2_featureOf 84 = .ok (.iaload, 1) := dop_46 (dn_w dw11_5 4 rfl)
theorem dX2_featureOf_85 : decode cX2_featureOf 85 = .ok (.ireturn, 1) := dop_172 (dn_w dw11_5 5 rfl)
theorem dX2_featureOf_86 : decode cX2_featureOf 86 = .ok (.aload_n 0, 1) := dop_42 (dn_w dw11_5 6 rfl)
theorem dX2_featureOf_87 : decode cX2_featureOf 87 = .ok (.getfield 30, 3) := dop_180 (dn_w dw11_5 7 rfl) rfl
theorem dX2_featureOf_90 : decode cX2_featureOf 90 = .ok (.iload_n 1, 1) := dop_27 (dn_w dw11_5 10 rfl)
theorem dX2_featureOf_91 : decode cX2_featureOf 91 = .ok (.iaload, 1) := dop_46 (dn_w dw11_5 11 rfl)
theorem dX2_featureOf_92 : decode cX2_featureOf 92 = .ok (.ireturn, 1) := dop_172 (dn_w dw11_5 12 rfl)
theorem dX2_featureOf_93 : decode cX2_featureOf 93 = .ok (.iconst (-1), 1) := dop_2 (dn_w dw11_5 13 rfl)
theorem dX2_featureOf_94 : decode cX2_featureOf 94 = .ok (.ireturn, 1) := dop_172 (dn_w dw11_5 14 rfl)
noncomputable def dt12_0 : List Nat := 42 :: 180 :: 0 :: 49 :: 16 :: 40 :: 161 :: 0 :: 7 :: 4 :: 167 :: 0 :: 4 :: 3 :: 172 :: []
theorem dw12_0 : dn cX2_isOver 0 = dt12_0 := by decide +kernel
theorem dX2_isOver_0 : decode cX2_isOver 0 = .ok (.aload_n 0, 1) := dop_42 (dn_w dw12_0 0 rfl)
theorem dX2_isOver_1 : decode cX2_isOver 1 = .ok (.getfield 49, 3) := dop_180 (dn_w dw12_0 1 rfl) rfl
theorem dX2_isOver_4 : decode cX2_isOver 4 = .ok (.bipush 40, 2) := dop_16 (dn_w dw12_0 4 rfl) rfl
theorem dX2_isOver_6 : decode cX2_isOver 6 = .ok (.if_icmp .lt 7, 3) := dop_161 (dn_w dw12_0 6 rfl) rfl
theorem dX2_isOver_9 : decode cX2_isOver 9 = .ok (.iconst 1, 1) := dop_4 (dn_w dw12_0 9 rfl)
theorem dX2_isOver_10 : decode cX2_isOver 10 = .ok (.goto 4, 3) := dop_167 (dn_w dw12_0 10 rfl) rfl
theorem dX2_isOver_13 : decode cX2_isOver 13 = .ok (.iconst 0, 1) := dop_3 (dn_w dw12_0 13 rfl)
theorem dX2_isOver_14 : decode cX2_isOver 14 = .ok (.ireturn, 1) := dop_172 (dn_w dw12_0 14 rfl)
noncomputable def dt13_8 : List Nat := 180 :: 0 :: 58 :: 182 :: 0 :: 95 :: 172 :: []
noncomputable def dt13_7 : List Nat := 0 :: 90 :: 42 :: 180 :: 0 :: 58 :: 42 :: 180 :: 0 :: 46 :: 4 :: 46 :: 181 :: 0 :: 92 :: 42 :: dt13_8
noncomputable def dt13_6 : List Nat := 0 :: 87 :: 42 :: 180 :: 0 :: 58 :: 42 :: 180 :: 0 :: 37 :: 42 :: 180 :: 0 :: 49 :: 46 :: 181 :: dt13_7
noncomputable def dt13_5 : List Nat := 0 :: 30 :: 27 :: 46 :: 181 :: 0 :: 85 :: 42 :: 180 :: 0 :: 58 :: 42 :: 180 :: 0 :: 49 :: 181 :: dt13_6
noncomputable def dt13_4 : List Nat := 58 :: 42 :: 180 :: 0 :: 27 :: 27 :: 46 :: 181 :: 0 :: 83 :: 42 :: 180 :: 0 :: 58 :: 42 :: 180 :: dt13_5
noncomputable def dt13_3 : List Nat := 42 :: 180 :: 0 :: 58 :: 42 :: 180 :: 0 :: 24 :: 27 :: 46 :: 181 :: 0 :: 81 :: 42 :: 180 :: 0 :: dt13_4
noncomputable def dt13_2 : List Nat := 181 :: 0 :: 77 :: 42 :: 180 :: 0 :: 58 :: 42 :: 180 :: 0 :: 21 :: 27 :: 46 :: 181 :: 0 :: 79 :: dt13_3
noncomputable def dt13_1 : List Nat := 9 :: 27 :: 46 :: 181 :: 0 :: 75 :: 42 :: 180 :: 0 :: 58 :: 42 :: 180 :: 0 :: 15 :: 27 :: 46 :: dt13_2
noncomputable def dt13_0 : List Nat := 42 :: 182 :: 0 :: 71 :: 153 :: 0 :: 5 :: 3 :: 172 :: 42 :: 180 :: 0 :: 58 :: 42 :: 180 :: 0 :: dt13_1
theorem dw13_0 : dn cX2_isAway 0 = dt13_0 := by decide +kernel
theorem dw13_1 : dn cX2_isAway 16 = dt13_1 := dn_w dw13_0 16 rfl
theorem dw13_2 : dn cX2_isAway 32 = dt13_2 := dn_w dw13_1 16 rfl
theorem dw13_3 : dn cX2_isAway 48 = dt13_3 := dn_w dw13_2 16 rfl
theorem dw13_4 : dn cX2_isAway 64 = dt13_4 := dn_w dw13_3 16 rfl
theorem dw13_5 : dn cX2_isAway 80 = dt13_5 := dn_w dw13_4 16 rfl
theorem dw13_6 : dn cX2_isAway 96 = dt13_6 := dn_w dw13_5 16 rfl
theorem dw13_7 : dn cX2_isAway 112 = dt13_7 := dn_w dw13_6 16 rfl
theorem dw13_8 : dn cX2_isAway 128 = dt13_8 := dn_w dw13_7 16 rfl
theorem dX2_isAway_0 : decode cX2_isAway 0 = .ok (.aload_n 0, 1) := dop_42 (dn_w dw13_0 0 rfl)
theorem dX2_isAway_1 : decode cX2_isAway 1 = .ok (.invokevirtual 71, 3) := dop_182 (dn_w dw13_0 1 rfl) rfl
theorem dX2_isAway_4 : decode cX2_isAway 4 = .ok (.ifCond .eq 5, 3) := dop_153 (dn_w dw13_0 4 rfl) rfl
theorem dX2_isAway_7 : decode cX2_isAway 7 = .ok (.iconst 0, 1) := dop_3 (dn_w dw13_0 7 rfl)
theorem dX2_isAway_8 : decode cX2_isAway 8 = .ok (.ireturn, 1) := dop_172 (dn_w dw13_0 8 rfl)
theorem dX2_isAway_9 : decode cX2_isAway 9 = .ok (.aload_n 0, 1) := dop_42 (dn_w dw13_0 9 rfl)
theorem dX2_isAway_10 : decode cX2_isAway 10 = .ok (.getfield 58, 3) := dop_180 (dn_w dw13_0 10 rfl) rfl
theorem dX2_isAway_13 : decode cX2_isAway 13 = .ok (.aload_n 0, 1) := dop_42 (dn_w dw13_0 13 rfl)
theorem dX2_isAway_14 : decode cX2_isAway 14 = .ok (.getfield 9, 3) := dop_180 (dn_w dw13_0 14 rfl) rfl
theorem dX2_isAway_17 : decode cX2_isAway 17 = .ok (.iload_n 1, 1) := dop_27 (dn_w dw13_1 1 rfl)
theorem dX2_isAway_18 : decode cX2_isAway 18 = .ok (.iaload, 1) := dop_46 (dn_w dw13_1 2 rfl)
theorem dX2_isAway_19 : decode cX2_isAway 19 = .ok (.putfield 75, 3) := dop_181 (dn_w dw13_1 3 rfl) rfl
theorem dX2_isAway_22 : decode cX2_isAway 22 = .ok (.aload_n 0, 1) := dop_42 (dn_w dw13_1 6 rfl)
theorem dX2_isAway_23 : decode cX2_isAway 23 = .ok (.getfield 58, 3) := dop_180 (dn_w dw13_1 7 rfl) rfl
theorem dX2_isAway_26 : decode cX2_isAway 26 = .ok (.aload_n 0, 1) := dop_42 (dn_w dw13_1 10 rfl)
theorem dX2_isAway_27 : decode cX2_isAway 27 = .ok (.getfield 15, 3) := dop_180 (dn_w dw13_1 11 rfl) rfl
theorem dX2_isAway_30 : decode cX2_isAway 30 = .ok (.iload_n 1, 1) := dop_27 (dn_w dw13_1 14 rfl)
theorem dX2_isAway_31 : decode cX2_isAway 31 = .ok (.iaload, 1) := dop_46 (dn_w dw13_1 15 rfl)
theorem dX2_isAway_32 : decode cX2_isAway 32 = .ok (.putfield 77, 3) := dop_181 (dn_w dw13_2 0 rfl) rfl
theorem dX2_isAway_35 : decode cX2_isAway 35 = .ok (.aload_n 0, 1) := dop_42 (dn_w dw13_2 3 rfl)
theorem dX2_isAway_36 : decode cX2_isAway 36 = .ok (.getfield 58, 3) := dop_180 (dn_w dw13_2 4 rfl) rfl
theorem dX2_isAway_39 : decode cX2_isAway 39 = .ok (.aload_n 0, 1) := dop_42 (dn_w dw13_2 7 rfl)
theorem dX2_isAway_40 : decode cX2_isAway 40 = .ok (.getfield 21, 3) := dop_180 (dn_w dw13_2 8 rfl) rfl
theorem dX2_isAway_43 : decode cX2_isAway 43 = .ok (.iload_n 1, 1) := dop_27 (dn_w dw13_2 11 rfl)
theorem dX2_isAway_44 : decode cX2_isAway 44 = .ok (.iaload, 1) := dop_46 (dn_w dw13_2 12 rfl)
theorem dX2_isAway_45 : decode cX2_isAway 45 = .ok (.putfield 79, 3) := dop_181 (dn_w dw13_2 13 rfl) rfl
theorem dX2_isAway_48 : decode cX2_isAway 48 = .ok (.aload_n 0, 1) := dop_42 (dn_w dw13_3 0 rfl)
theorem dX2_isAway_49 : decode cX2_isAway 49 = .ok (.getfield 58, 3) := dop_180 (dn_w dw13_3 1 rfl) rfl
theorem dX2_isAway_52 : decode cX2_isAway 52 = .ok (.aload_n 0, 1) := dop_42 (dn_w dw13_3 4 rfl)
theorem dX2_isAway_53 : decode cX2_isAway 53 = .ok (.getfield 24, 3) := dop_180 (dn_w dw13_3 5 rfl) rfl
theorem dX2_isAway_56 : decode cX2_isAway 56 = .ok (.iload_n 1, 1) := dop_27 (dn_w dw13_3 8 rfl)
theorem dX2_isAway_57 : decode cX2_isAway 57 = .ok (.iaload, 1) := dop_46 (dn_w dw13_3 9 rfl)
theorem dX2_isAway_58 : decode cX2_isAway 58 = .ok (.putfield 81, 3) := dop_181 (dn_w dw13_3 10 rfl) rfl
theorem dX2_isAway_61 : decode cX2_isAway 61 = .ok (.aload_n 0, 1) := dop_42 (dn_w dw13_3 13 rfl)
theorem dX2_isAway_62 : decode cX2_isAway 62 = .ok (.getfield 58, 3) := dop_180 (dn_w dw13_3 14 rfl) rfl
theorem dX2_isAway_65 : decode cX2_isAway 65 = .ok (.aload_n 0, 1) := dop_42 (dn_w dw13_4 1 rfl)
theorem dX2_isAway_66 : decode cX2_isAway 66 = .ok (.getfield 27, 3) := dop_180 (dn_w dw13_4 2 rfl) rfl
theorem dX2_isAway_69 : decode cX2_isAway 69 = .ok (.iload_n 1, 1) := dop_27 (dn_w dw13_4 5 rfl)
theorem dX2_isAway_70 : decode cX2_isAway 70 = .ok (.iaload, 1) := dop_46 (dn_w dw13_4 6 rfl)
theorem dX2_isAway_71 : decode cX2_isAway 71 = .ok (.putfield 83, 3) := dop_181 (dn_w dw13_4 7 rfl) rfl
theorem dX2_isAway_74 : decode cX2_isAway 74 = .ok (.aload_n 0, 1) := dop_42 (dn_w dw13_4 10 rfl)
theorem dX2_isAway_75 : decode cX2_isAway 75 = .ok (.getfield 58, 3) := dop_180 (dn_w dw13_4 11 rfl) rfl
theorem dX2_isAway_78 : decode cX2_isAway 78 = .ok (.aload_n 0, 1) := dop_42 (dn_w dw13_4 14 rfl)
theorem dX2_isAway_79 : decode cX2_isAway 79 = .ok (.getfield 30, 3) := dop_180 (dn_w dw13_4 15 rfl) rfl
theorem dX2_isAway_82 : decode cX2_isAway 82 = .ok (.iload_n 1, 1) := dop_27 (dn_w dw13_5 2 rfl)
theorem dX2_isAway_83 : decode cX2_isAway 83 = .ok (.iaload, 1) := dop_46 (dn_w dw13_5 3 rfl)
theorem dX2_isAway_84 : decode cX2_isAway 84 = .ok (.putfield 85, 3) := dop_181 (dn_w dw13_5 4 rfl) rfl
theorem dX2_isAway_87 : decode cX2_isAway 87 = .ok (.aload_n 0, 1) := dop_42 (dn_w dw13_5 7 rfl)
theorem dX2_isAway_88 : decode cX2_isAway 88 = .ok (.getfield 58, 3) := dop_180 (dn_w dw13_5 8 rfl) rfl
theorem dX2_isAway_91 : decode cX2_isAway 91 = .ok (.aload_n 0, 1) := dop_42 (dn_w dw13_5 11 rfl)
theorem dX2_isAway_92 : decode cX2_isAway 92 = .ok (.getfield 49, 3) := dop_180 (dn_w dw13_5 12 rfl) rfl
theorem dX2_isAway_95 : decode cX2_isAway 95 = .ok (.putfield 87, 3) := dop_181 (dn_w dw13_5 15 rfl) rfl
theorem dX2_isAway_98 : decode cX2_isAway 98 = .ok (.aload_n 0, 1) := dop_42 (dn_w dw13_6 2 rfl)
theorem dX2_isAway_99 : decode cX2_isAway 99 = .ok (.getfield 58, 3) := dop_180 (dn_w dw13_6 3 rfl) rfl
theorem dX2_isAway_102 : decode cX2_isAway 102 = .ok (.aload_n 0, 1) := dop_42 (dn_w dw13_6 6 rfl)
theorem dX2_isAway_103 : decode cX2_isAway 103 = .ok (.getfield 37, 3) := dop_180 (dn_w dw13_6 7 rfl) rfl
theorem dX2_isAway_106 : decode cX2_isAway 106 = .ok (.aload_n 0, 1) := dop_42 (dn_w dw13_6 10 rfl)
theorem dX2_isAway_107 : decode cX2_isAway 107 = .ok (.getfield 49, 3) := dop_180 (dn_w dw13_6 11 rfl) rfl
theorem dX2_isAway_110 : decode cX2_isAway 110 = .ok (.iaload, 1) := dop_46 (dn_w dw13_6 14 rfl)
theorem dX2_isAway_111 : decode cX2_isAway 111 = .ok (.putfield 90, 3) := dop_181 (dn_w dw13_6 15 rfl) rfl
theorem dX2_isAway_114 : decode cX2_isAway 114 = .ok (.aload_n 0, 1) := dop_42 (dn_w dw13_7 2 rfl)
theorem dX2_isAway_115 : decode cX2_isAway 115 = .ok (.getfield 58, 3) := dop_180 (dn_w dw13_7 3 rfl) rfl
theorem dX2_isAway_118 : decode cX2_isAway 118 = .ok (.aload_n 0, 1) := dop_42 (dn_w dw13_7 6 rfl)
theorem dX2_isAway_119 : decode cX2_isAway 119 = .ok (.getfield 46, 3) := dop_180 (dn_w dw13_7 7 rfl) rfl
theorem dX2_isAway_122 : decode cX2_isAway 122 = .ok (.iconst 1, 1) := dop_4 (dn_w dw13_7 10 rfl)
theorem dX2_isAway_123 : decode cX2_isAway 123 = .ok (.iaload, 1) := dop_46 (dn_w dw13_7 11 rfl)
theorem dX2_isAway_124 : decode cX2_isAway 124 = .ok (.putfield 92, 3) := dop_181 (dn_w dw13_7 12 rfl) rfl
theorem dX2_isAway_127 : decode cX2_isAway 127 = .ok (.aload_n 0, 1) := dop_42 (dn_w dw13_7 15 rfl)
theorem dX2_isAway_128 : decode cX2_isAway 128 = .ok (.getfield 58, 3) := dop_180 (dn_w dw13_8 0 rfl) rfl
theorem dX2_isAway_131 : decode cX2_isAway 131 = .ok (.invokevirtual 95, 3) := dop_182 (dn_w dw13_8 3 rfl) rfl
theorem dX2_isAway_134 : decode cX2_isAway 134 = .ok (.ireturn, 1) := dop_172 (dn_w dw13_8 6 rfl)
noncomputable def dt14_2 : List Nat := 27 :: 172 :: []
noncomputable def dt14_1 : List Nat := 98 :: 154 :: 0 :: 9 :: 27 :: 4 :: 28 :: 120 :: 128 :: 60 :: 132 :: 2 :: 1 :: 167 :: 255 :: 231 :: dt14_2
noncomputable def dt14_0 : List Nat := 3 :: 60 :: 3 :: 61 :: 28 :: 42 :: 180 :: 0 :: 33 :: 162 :: 0 :: 23 :: 42 :: 28 :: 182 :: 0 :: dt14_1
theorem dw14_0 : dn cX2_thereToday 0 = dt14_0 := by decide +kernel
theorem dw14_1 : dn cX2_thereToday 16 = dt14_1 := dn_w dw14_0 16 rfl
theorem dw14_2 : dn cX2_thereToday 32 = dt14_2 := dn_w dw14_1 16 rfl
theorem dX2_thereToday_0 : decode cX2_thereToday 0 = .ok (.iconst 0, 1) := dop_3 (dn_w dw14_0 0 rfl)
theorem dX2_thereToday_1 : decode cX2_thereToday 1 = .ok (.istore_n 1, 1) := dop_60 (dn_w dw14_0 1 rfl)
theorem dX2_thereToday_2 : decode cX2_thereToday 2 = .ok (.iconst 0, 1) := dop_3 (dn_w dw14_0 2 rfl)
theorem dX2_thereToday_3 : decode cX2_thereToday 3 = .ok (.istore_n 2, 1) := dop_61 (dn_w dw14_0 3 rfl)
theorem dX2_thereToday_4 : decode cX2_thereToday 4 = .ok (.iload_n 2, 1) := dop_28 (dn_w dw14_0 4 rfl)
theorem dX2_thereToday_5 : decode cX2_thereToday 5 = .ok (.aload_n 0, 1) := dop_42 (dn_w dw14_0 5 rfl)
theorem dX2_thereToday_6 : decode cX2_thereToday 6 = .ok (.getfield 33, 3) := dop_180 (dn_w dw14_0 6 rfl) rfl
theorem dX2_thereToday_9 : decode cX2_thereToday 9 = .ok (.if_icmp .ge 23, 3) := dop_162 (dn_w dw14_0 9 rfl) rfl
theorem dX2_thereToday_12 : decode cX2_thereToday 12 = .ok (.aload_n 0, 1) := dop_42 (dn_w dw14_0 12 rfl)
theorem dX2_thereToday_13 : decode cX2_thereToday 13 = .ok (.iload_n 2, 1) := dop_28 (dn_w dw14_0 13 rfl)
theorem dX2_thereToday_14 : decode cX2_thereToday 14 = .ok (.invokevirtual 98, 3) := dop_182 (dn_w dw14_0 14 rfl) rfl
theorem dX2_thereToday_17 : decode cX2_thereToday 17 = .ok (.ifCond .ne 9, 3) := dop_154 (dn_w dw14_1 1 rfl) rfl
theorem dX2_thereToday_20 : decode cX2_thereToday 20 = .ok (.iload_n 1, 1) := dop_27 (dn_w dw14_1 4 rfl)
theorem dX2_thereToday_21 : decode cX2_thereToday 21 = .ok (.iconst 1, 1) := dop_4 (dn_w dw14_1 5 rfl)
theorem dX2_thereToday_22 : decode cX2_thereToday 22 = .ok (.iload_n 2, 1) := dop_28 (dn_w dw14_1 6 rfl)
theorem dX2_thereToday_23 : decode cX2_thereToday 23 = .ok (.ishl, 1) := dop_120 (dn_w dw14_1 7 rfl)
theorem dX2_thereToday_24 : decode cX2_thereToday 24 = .ok (.ior, 1) := dop_128 (dn_w dw14_1 8 rfl)
theorem dX2_thereToday_25 : decode cX2_thereToday 25 = .ok (.istore_n 1, 1) := dop_60 (dn_w dw14_1 9 rfl)
theorem dX2_thereToday_26 : decode cX2_thereToday 26 = .ok (.iinc 2 1, 3) := dop_132 (dn_w dw14_1 10 rfl) rfl
theorem dX2_thereToday_29 : decode cX2_thereToday 29 = .ok (.goto (-25), 3) := dop_167 (dn_w dw14_1 13 rfl) rfl
theorem dX2_thereToday_32 : decode cX2_thereToday 32 = .ok (.iload_n 1, 1) := dop_27 (dn_w dw14_2 0 rfl)
theorem dX2_thereToday_33 : decode cX2_thereToday 33 = .ok (.ireturn, 1) := dop_172 (dn_w dw14_2 1 rfl)
noncomputable def dt15_2 : List Nat := 230 :: 27 :: 172 :: []
noncomputable def dt15_1 : List Nat := 28 :: 46 :: 158 :: 0 :: 9 :: 27 :: 4 :: 28 :: 120 :: 128 :: 60 :: 132 :: 2 :: 1 :: 167 :: 255 :: dt15_2
noncomputable def dt15_0 : List Nat := 3 :: 60 :: 3 :: 61 :: 28 :: 42 :: 180 :: 0 :: 33 :: 162 :: 0 :: 24 :: 42 :: 180 :: 0 :: 24 :: dt15_1
theorem dw15_0 : dn cX2_sickNow 0 = dt15_0 := by decide +kernel
theorem dw15_1 : dn cX2_sickNow 16 = dt15_1 := dn_w dw15_0 16 rfl
theorem dw15_2 : dn cX2_sickNow 32 = dt15_2 := dn_w dw15_1 16 rfl
theorem dX2_sickNow_0 : decode cX2_sickNow 0 = .ok (.iconst 0, 1) := dop_3 (dn_w dw15_0 0 rfl)
theorem dX2_sickNow_1 : decode cX2_sickNow 1 = .ok (.istore_n 1, 1) := dop_60 (dn_w dw15_0 1 rfl)
theorem dX2_sickNow_2 : decode cX2_sickNow 2 = .ok (.iconst 0, 1) := dop_3 (dn_w dw15_0 2 rfl)
theorem dX2_sickNow_3 : decode cX2_sickNow 3 = .ok (.istore_n 2, 1) := dop_61 (dn_w dw15_0 3 rfl)
theorem dX2_sickNow_4 : decode cX2_sickNow 4 = .ok (.iload_n 2, 1) := dop_28 (dn_w dw15_0 4 rfl)
theorem dX2_sickNow_5 : decode cX2_sickNow 5 = .ok (.aload_n 0, 1) := dop_42 (dn_w dw15_0 5 rfl)
theorem dX2_sickNow_6 : decode cX2_sickNow 6 = .ok (.getfield 33, 3) := dop_180 (dn_w dw15_0 6 rfl) rfl
theorem dX2_sickNow_9 : decode cX2_sickNow 9 = .ok (.if_icmp .ge 24, 3) := dop_162 (dn_w dw15_0 9 rfl) rfl
theorem dX2_sickNow_12 : decode cX2_sickNow 12 = .ok (.aload_n 0, 1) := dop_42 (dn_w dw15_0 12 rfl)
theorem dX2_sickNow_13 : decode cX2_sickNow 13 = .ok (.getfield 24, 3) := dop_180 (dn_w dw15_0 13 rfl) rfl
theorem dX2_sickNow_16 : decode cX2_sickNow 16 = .ok (.iload_n 2, 1) := dop_28 (dn_w dw15_1 0 rfl)
theorem dX2_sickNow_17 : decode cX2_sickNow 17 = .ok (.iaload, 1) := dop_46 (dn_w dw15_1 1 rfl)
theorem dX2_sickNow_18 : decode cX2_sickNow 18 = .ok (.ifCond .le 9, 3) := dop_158 (dn_w dw15_1 2 rfl) rfl
theorem dX2_sickNow_21 : decode cX2_sickNow 21 = .ok (.iload_n 1, 1) := dop_27 (dn_w dw15_1 5 rfl)
theorem dX2_sickNow_22 : decode cX2_sickNow 22 = .ok (.iconst 1, 1) := dop_4 (dn_w dw15_1 6 rfl)
theorem dX2_sickNow_23 : decode cX2_sickNow 23 = .ok (.iload_n 2, 1) := dop_28 (dn_w dw15_1 7 rfl)
theorem dX2_sickNow_24 : decode cX2_sickNow 24 = .ok (.ishl, 1) := dop_120 (dn_w dw15_1 8 rfl)
theorem dX2_sickNow_25 : decode cX2_sickNow 25 = .ok (.ior, 1) := dop_128 (dn_w dw15_1 9 rfl)
theorem dX2_sickNow_26 : decode cX2_sickNow 26 = .ok (.istore_n 1, 1) := dop_60 (dn_w dw15_1 10 rfl)
theorem dX2_sickNow_27 : decode cX2_sickNow 27 = .ok (.iinc 2 1, 3) := dop_132 (dn_w dw15_1 11 rfl) rfl
theorem dX2_sickNow_30 : decode cX2_sickNow 30 = .ok (.goto (-26), 3) := dop_167 (dn_w dw15_1 14 rfl) rfl
theorem dX2_sickNow_33 : decode cX2_sickNow 33 = .ok (.iload_n 1, 1) := dop_27 (dn_w dw15_2 1 rfl)
theorem dX2_sickNow_34 : decode cX2_sickNow 34 = .ok (.ireturn, 1) := dop_172 (dn_w dw15_2 2 rfl)
noncomputable def dt16_8 : List Nat := 96 :: 181 :: 0 :: 49 :: 27 :: 172 :: []
noncomputable def dt16_7 : List Nat := 3 :: 1 :: 167 :: 255 :: 183 :: 42 :: 28 :: 182 :: 0 :: 115 :: 42 :: 89 :: 180 :: 0 :: 49 :: 4 :: dt16_8
noncomputable def dt16_6 : List Nat := 27 :: 29 :: 3 :: 42 :: 180 :: 0 :: 27 :: 29 :: 46 :: 4 :: 100 :: 184 :: 0 :: 109 :: 79 :: 132 :: dt16_7
noncomputable def dt16_5 : List Nat := 3 :: 42 :: 180 :: 0 :: 24 :: 29 :: 46 :: 4 :: 100 :: 184 :: 0 :: 109 :: 79 :: 42 :: 180 :: 0 :: dt16_6
noncomputable def dt16_4 : List Nat := 0 :: 11 :: 42 :: 180 :: 0 :: 30 :: 29 :: 46 :: 4 :: 96 :: 79 :: 42 :: 180 :: 0 :: 24 :: 29 :: dt16_5
noncomputable def dt16_3 : List Nat := 71 :: 42 :: 180 :: 0 :: 30 :: 29 :: 27 :: 29 :: 122 :: 4 :: 126 :: 153 :: 0 :: 7 :: 3 :: 167 :: dt16_4
noncomputable def dt16_2 : List Nat := 43 :: 42 :: 180 :: 0 :: 49 :: 27 :: 79 :: 3 :: 62 :: 29 :: 42 :: 180 :: 0 :: 33 :: 162 :: 0 :: dt16_3
noncomputable def dt16_1 : List Nat := 0 :: 106 :: 61 :: 42 :: 180 :: 0 :: 40 :: 42 :: 180 :: 0 :: 49 :: 27 :: 79 :: 42 :: 180 :: 0 :: dt16_2
noncomputable def dt16_0 : List Nat := 42 :: 182 :: 0 :: 71 :: 153 :: 0 :: 5 :: 3 :: 172 :: 42 :: 182 :: 0 :: 102 :: 60 :: 42 :: 182 :: dt16_1
theorem dw16_0 : dn cX2_goOneDay 0 = dt16_0 := by decide +kernel
theorem dw16_1 : dn cX2_goOneDay 16 = dt16_1 := dn_w dw16_0 16 rfl
theorem dw16_2 : dn cX2_goOneDay 32 = dt16_2 := dn_w dw16_1 16 rfl
theorem dw16_3 : dn cX2_goOneDay 48 = dt16_3 := dn_w dw16_2 16 rfl
theorem dw16_4 : dn cX2_goOneDay 64 = dt16_4 := dn_w dw16_3 16 rfl
theorem dw16_5 : dn cX2_goOneDay 80 = dt16_5 := dn_w dw16_4 16 rfl
theorem dw16_6 : dn cX2_goOneDay 96 = dt16_6 := dn_w dw16_5 16 rfl
theorem dw16_7 : dn cX2_goOneDay 112 = dt16_7 := dn_w dw16_6 16 rfl
theorem dw16_8 : dn cX2_goOneDay 128 = dt16_8 := dn_w dw16_7 16 rfl
theorem dX2_goOneDay_0 : decode cX2_goOneDay 0 = .ok (.aload_n 0, 1) := dop_42 (dn_w dw16_0 0 rfl)
theorem dX2_goOneDay_1 : decode cX2_goOneDay 1 = .ok (.invokevirtual 71, 3) := dop_182 (dn_w dw16_0 1 rfl) rfl
theorem dX2_goOneDay_4 : decode cX2_goOneDay 4 = .ok (.ifCond .eq 5, 3) := dop_153 (dn_w dw16_0 4 rfl) rfl
theorem dX2_goOneDay_7 : decode cX2_goOneDay 7 = .ok (.iconst 0, 1) := dop_3 (dn_w dw16_0 7 rfl)
theorem dX2_goOneDay_8 : decode cX2_goOneDay 8 = .ok (.ireturn, 1) := dop_172 (dn_w dw16_0 8 rfl)
theorem dX2_goOneDay_9 : decode cX2_goOneDay 9 = .ok (.aload_n 0, 1) := dop_42 (dn_w dw16_0 9 rfl)
theorem dX2_goOneDay_10 : decode cX2_goOneDay 10 = .ok (.invokevirtual 102, 3) := dop_182 (dn_w dw16_0 10 rfl) rfl
theorem dX2_goOneDay_13 : decode cX2_goOneDay 13 = .ok (.istore_n 1, 1) := dop_60 (dn_w dw16_0 13 rfl)
theorem dX2_goOneDay_14 : decode cX2_goOneDay 14 = .ok (.aload_n 0, 1) := dop_42 (dn_w dw16_0 14 rfl)
theorem dX2_goOneDay_15 : decode cX2_goOneDay 15 = .ok (.invokevirtual 106, 3) := dop_182 (dn_w dw16_0 15 rfl) rfl
theorem dX2_goOneDay_18 : decode cX2_goOneDay 18 = .ok (.istore_n 2, 1) := dop_61 (dn_w dw16_1 2 rfl)
theorem dX2_goOneDay_19 : decode cX2_goOneDay 19 = .ok (.aload_n 0, 1) := dop_42 (dn_w dw16_1 3 rfl)
theorem dX2_goOneDay_20 : decode cX2_goOneDay 20 = .ok (.getfield 40, 3) := dop_180 (dn_w dw16_1 4 rfl) rfl
theorem dX2_goOneDay_23 : decode cX2_goOneDay 23 = .ok (.aload_n 0, 1) := dop_42 (dn_w dw16_1 7 rfl)
theorem dX2_goOneDay_24 : decode cX2_goOneDay 24 = .ok (.getfield 49, 3) := dop_180 (dn_w dw16_1 8 rfl) rfl
theorem dX2_goOneDay_27 : decode cX2_goOneDay 27 = .ok (.iload_n 1, 1) := dop_27 (dn_w dw16_1 11 rfl)
theorem dX2_goOneDay_28 : decode cX2_goOneDay 28 = .ok (.iastore, 1) := dop_79 (dn_w dw16_1 12 rfl)
theorem dX2_goOneDay_29 : decode cX2_goOneDay 29 = .ok (.aload_n 0, 1) := dop_42 (dn_w dw16_1 13 rfl)
theorem dX2_goOneDay_30 : decode cX2_goOneDay 30 = .ok (.getfield 43, 3) := dop_180 (dn_w dw16_1 14 rfl) rfl
theorem dX2_goOneDay_33 : decode cX2_goOneDay 33 = .ok (.aload_n 0, 1) := dop_42 (dn_w dw16_2 1 rfl)
theorem dX2_goOneDay_34 : decode cX2_goOneDay 34 = .ok (.getfield 49, 3) := dop_180 (dn_w dw16_2 2 rfl) rfl
theorem dX2_goOneDay_37 : decode cX2_goOneDay 37 = .ok (.iload_n 1, 1) := dop_27 (dn_w dw16_2 5 rfl)
theorem dX2_goOneDay_38 : decode cX2_goOneDay 38 = .ok (.iastore, 1) := dop_79 (dn_w dw16_2 6 rfl)
theorem dX2_goOneDay_39 : decode cX2_goOneDay 39 = .ok (.iconst 0, 1) := dop_3 (dn_w dw16_2 7 rfl)
theorem dX2_goOneDay_40 : decode cX2_goOneDay 40 = .ok (.istore_n 3, 1) := dop_62 (dn_w dw16_2 8 rfl)
theorem dX2_goOneDay_41 : decode cX2_goOneDay 41 = .ok (.iload_n 3, 1) := dop_29 (dn_w dw16_2 9 rfl)
theorem dX2_goOneDay_42 : decode cX2_goOneDay 42 = .ok (.aload_n 0, 1) := dop_42 (dn_w dw16_2 10 rfl)
theorem dX2_goOneDay_43 : decode cX2_goOneDay 43 = .ok (.getfield 33, 3) := dop_180 (dn_w dw16_2 11 rfl) rfl
theorem dX2_goOneDay_46 : decode cX2_goOneDay 46 = .ok (.if_icmp .ge 71, 3) := dop_162 (dn_w dw16_2 14 rfl) rfl
theorem dX2_goOneDay_49 : decode cX2_goOneDay 49 = .ok (.aload_n 0, 1) := dop_42 (dn_w dw16_3 1 rfl)
theorem dX2_goOneDay_50 : decode cX2_goOneDay 50 = .ok (.getfield 30, 3) := dop_180 (dn_w dw16_3 2 rfl) rfl
theorem dX2_goOneDay_53 : decode cX2_goOneDay 53 = .ok (.iload_n 3, 1) := dop_29 (dn_w dw16_3 5 rfl)
theorem dX2_goOneDay_54 : decode cX2_goOneDay 54 = .ok (.iload_n 1, 1) := dop_27 (dn_w dw16_3 6 rfl)
theorem dX2_goOneDay_55 : decode cX2_goOneDay 55 = .ok (.iload_n 3, 1) := dop_29 (dn_w dw16_3 7 rfl)
theorem dX2_goOneDay_56 : decode cX2_goOneDay 56 = .ok (.ishr, 1) := dop_122 (dn_w dw16_3 8 rfl)
theorem dX2_goOneDay_57 : decode cX2_goOneDay 57 = .ok (.iconst 1, 1) := dop_4 (dn_w dw16_3 9 rfl)
theorem dX2_goOneDay_58 : decode cX2_goOneDay 58 = .ok (.iand, 1) := dop_126 (dn_w dw16_3 10 rfl)
theorem dX2_goOneDay_59 : decode cX2_goOneDay 59 = .ok (.ifCond .eq 7, 3) := dop_153 (dn_w dw16_3 11 rfl) rfl
theorem dX2_goOneDay_62 : decode cX2_goOneDay 62 = .ok (.iconst 0, 1) := dop_3 (dn_w dw16_3 14 rfl)
theorem dX2_goOneDay_63 : decode cX2_goOneDay 63 = .ok (.goto 11, 3) := dop_167 (dn_w dw16_3 15 rfl) rfl
theorem dX2_goOneDay_66 : decode cX2_goOneDay 66 = .ok (.aload_n 0, 1) := dop_42 (dn_w dw16_4 2 rfl)
theorem dX2_goOneDay_67 : decode cX2_goOneDay 67 = .ok (.getfield 30, 3) := dop_180 (dn_w dw16_4 3 rfl) rfl
theorem dX2_goOneDay_70 : decode cX2_goOneDay 70 = .ok (.iload_n 3, 1) := dop_29 (dn_w dw16_4 6 rfl)
theorem dX2_goOneDay_71 : decode cX2_goOneDay 71 = .ok (.iaload, 1) := dop_46 (dn_w dw16_4 7 rfl)
theorem dX2_goOneDay_72 : decode cX2_goOneDay 72 = .ok (.iconst 1, 1) := dop_4 (dn_w dw16_4 8 rfl)
theorem dX2_goOneDay_73 : decode cX2_goOneDay 73 = .ok (.iadd, 1) := dop_96 (dn_w dw16_4 9 rfl)
theorem dX2_goOneDay_74 : decode cX2_goOneDay 74 = .ok (.iastore, 1) := dop_79 (dn_w dw16_4 10 rfl)
theorem dX2_goOneDay_75 : decode cX2_goOneDay 75 = .ok (.aload_n 0, 1) := dop_42 (dn_w dw16_4 11 rfl)
theorem dX2_goOneDay_76 : decode cX2_goOneDay 76 = .ok (.getfield 24, 3) := dop_180 (dn_w dw16_4 12 rfl) rfl
theorem dX2_goOneDay_79 : decode cX2_goOneDay 79 = .ok (.iload_n 3, 1) := dop_29 (dn_w dw16_4 15 rfl)
theorem dX2_goOneDay_80 : decode cX2_goOneDay 80 = .ok (.iconst 0, 1) := dop_3 (dn_w dw16_5 0 rfl)
theorem dX2_goOneDay_81 : decode cX2_goOneDay 81 = .ok (.aload_n 0, 1) := dop_42 (dn_w dw16_5 1 rfl)
theorem dX2_goOneDay_82 : decode cX2_goOneDay 82 = .ok (.getfield 24, 3) := dop_180 (dn_w dw16_5 2 rfl) rfl
theorem dX2_goOneDay_85 : decode cX2_goOneDay 85 = .ok (.iload_n 3, 1) := dop_29 (dn_w dw16_5 5 rfl)
theorem dX2_goOneDay_86 : decode cX2_goOneDay 86 = .ok (.iaload, 1) := dop_46 (dn_w dw16_5 6 rfl)
theorem dX2_goOneDay_87 : decode cX2_goOneDay 87 = .ok (.iconst 1, 1) := dop_4 (dn_w dw16_5 7 rfl)
theorem dX2_goOneDay_88 : decode cX2_goOneDay 88 = .ok (.isub, 1) := dop_100 (dn_w dw16_5 8 rfl)
theorem dX2_goOneDay_89 : decode cX2_goOneDay 89 = .ok (.invokestatic 109, 3) := dop_184 (dn_w dw16_5 9 rfl) rfl
theorem dX2_goOneDay_92 : decode cX2_goOneDay 92 = .ok (.iastore, 1) := dop_79 (dn_w dw16_5 12 rfl)
theorem dX2_goOneDay_93 : decode cX2_goOneDay 93 = .ok (.aload_n 0, 1) := dop_42 (dn_w dw16_5 13 rfl)
theorem dX2_goOneDay_94 : decode cX2_goOneDay 94 = .ok (.getfield 27, 3) := dop_180 (dn_w dw16_5 14 rfl) rfl
theorem dX2_goOneDay_97 : decode cX2_goOneDay 97 = .ok (.iload_n 3, 1) := dop_29 (dn_w dw16_6 1 rfl)
theorem dX2_goOneDay_98 : decode cX2_goOneDay 98 = .ok (.iconst 0, 1) := dop_3 (dn_w dw16_6 2 rfl)
theorem dX2_goOneDay_99 : decode cX2_goOneDay 99 = .ok (.aload_n 0, 1) := dop_42 (dn_w dw16_6 3 rfl)
theorem dX2_goOneDay_100 : decode cX2_goOneDay 100 = .ok (.getfield 27, 3) := dop_180 (dn_w dw16_6 4 rfl) rfl
theorem dX2_goOneDay_103 : decode cX2_goOneDay 103 = .ok (.iload_n 3, 1) := dop_29 (dn_w dw16_6 7 rfl)
theorem dX2_goOneDay_104 : decode cX2_goOneDay 104 = .ok (.iaload, 1) := dop_46 (dn_w dw16_6 8 rfl)
theorem dX2_goOneDay_105 : decode cX2_goOneDay 105 = .ok (.iconst 1, 1) := dop_4 (dn_w dw16_6 9 rfl)
theorem dX2_goOneDay_106 : decode cX2_goOneDay 106 = .ok (.isub, 1) := dop_100 (dn_w dw16_6 10 rfl)
theorem dX2_goOneDay_107 : decode cX2_goOneDay 107 = .ok (.invokestatic 109, 3) := dop_184 (dn_w dw16_6 11 rfl) rfl
theorem dX2_goOneDay_110 : decode cX2_goOneDay 110 = .ok (.iastore, 1) := dop_79 (dn_w dw16_6 14 rfl)
theorem dX2_goOneDay_111 : decode cX2_goOneDay 111 = .ok (.iinc 3 1, 3) := dop_132 (dn_w dw16_6 15 rfl) rfl
theorem dX2_goOneDay_114 : decode cX2_goOneDay 114 = .ok (.goto (-73), 3) := dop_167 (dn_w dw16_7 2 rfl) rfl
theorem dX2_goOneDay_117 : decode cX2_goOneDay 117 = .ok (.aload_n 0, 1) := dop_42 (dn_w dw16_7 5 rfl)
theorem dX2_goOneDay_118 : decode cX2_goOneDay 118 = .ok (.iload_n 2, 1) := dop_28 (dn_w dw16_7 6 rfl)
theorem dX2_goOneDay_119 : decode cX2_goOneDay 119 = .ok (.invokevirtual 115, 3) := dop_182 (dn_w dw16_7 7 rfl) rfl
theorem dX2_goOneDay_122 : decode cX2_goOneDay 122 = .ok (.aload_n 0, 1) := dop_42 (dn_w dw16_7 10 rfl)
theorem dX2_goOneDay_123 : decode cX2_goOneDay 123 = .ok (.dup, 1) := dop_89 (dn_w dw16_7 11 rfl)
theorem dX2_goOneDay_124 : decode cX2_goOneDay 124 = .ok (.getfield 49, 3) := dop_180 (dn_w dw16_7 12 rfl) rfl
theorem dX2_goOneDay_127 : decode cX2_goOneDay 127 = .ok (.iconst 1, 1) := dop_4 (dn_w dw16_7 15 rfl)
theorem dX2_goOneDay_128 : decode cX2_goOneDay 128 = .ok (.iadd, 1) := dop_96 (dn_w dw16_8 0 rfl)
theorem dX2_goOneDay_129 : decode cX2_goOneDay 129 = .ok (.putfield 49, 3) := dop_181 (dn_w dw16_8 1 rfl) rfl
theorem dX2_goOneDay_132 : decode cX2_goOneDay 132 = .ok (.iload_n 1, 1) := dop_27 (dn_w dw16_8 4 rfl)
theorem dX2_goOneDay_133 : decode cX2_goOneDay 133 = .ok (.ireturn, 1) := dop_172 (dn_w dw16_8 5 rfl)
noncomputable def dt17_3 : List Nat := 46 :: 79 :: 132 :: 2 :: 1 :: 167 :: 255 :: 205 :: 177 :: []
noncomputable def dt17_2 : List Nat := 182 :: 0 :: 119 :: 153 :: 0 :: 15 :: 42 :: 180 :: 0 :: 24 :: 28 :: 42 :: 180 :: 0 :: 46 :: 6 :: dt17_3
noncomputable def dt17_1 : List Nat := 8 :: 160 :: 0 :: 33 :: 42 :: 180 :: 0 :: 24 :: 28 :: 46 :: 154 :: 0 :: 24 :: 42 :: 28 :: 27 :: dt17_2
noncomputable def dt17_0 : List Nat := 3 :: 61 :: 28 :: 42 :: 180 :: 0 :: 33 :: 162 :: 0 :: 49 :: 42 :: 180 :: 0 :: 9 :: 28 :: 46 :: dt17_1
theorem dw17_0 : dn cX2_spreadFrom 0 = dt17_0 := by decide +kernel
theorem dw17_1 : dn cX2_spreadFrom 16 = dt17_1 := dn_w dw17_0 16 rfl
theorem dw17_2 : dn cX2_spreadFrom 32 = dt17_2 := dn_w dw17_1 16 rfl
theorem dw17_3 : dn cX2_spreadFrom 48 = dt17_3 := dn_w dw17_2 16 rfl
theorem dX2_spreadFrom_0 : decode cX2_spreadFrom 0 = .ok (.iconst 0, 1) := dop_3 (dn_w dw17_0 0 rfl)
theorem dX2_spreadFrom_1 : decode cX2_spreadFrom 1 = .ok (.istore_n 2, 1) := dop_61 (dn_w dw17_0 1 rfl)
theorem dX2_spreadFrom_2 : decode cX2_spreadFrom 2 = .ok (.iload_n 2, 1) := dop_28 (dn_w dw17_0 2 rfl)
theorem dX2_spreadFrom_3 : decode cX2_spreadFrom 3 = .ok (.aload_n 0, 1) := dop_42 (dn_w dw17_0 3 rfl)
theorem dX2_spreadFrom_4 : decode cX2_spreadFrom 4 = .ok (.getfield 33, 3) := dop_180 (dn_w dw17_0 4 rfl) rfl
theorem dX2_spreadFrom_7 : decode cX2_spreadFrom 7 = .ok (.if_icmp .ge 49, 3) := dop_162 (dn_w dw17_0 7 rfl) rfl
theorem dX2_spreadFrom_10 : decode cX2_spreadFrom 10 = .ok (.aload_n 0, 1) := dop_42 (dn_w dw17_0 10 rfl)
theorem dX2_spreadFrom_11 : decode cX2_spreadFrom 11 = .ok (.getfield 9, 3) := dop_180 (dn_w dw17_0 11 rfl) rfl
theorem dX2_spreadFrom_14 : decode cX2_spreadFrom 14 = .ok (.iload_n 2, 1) := dop_28 (dn_w dw17_0 14 rfl)
theorem dX2_spreadFrom_15 : decode cX2_spreadFrom 15 = .ok (.iaload, 1) := dop_46 (dn_w dw17_0 15 rfl)
theorem dX2_spreadFrom_16 : decode cX2_spreadFrom 16 = .ok (.iconst 5, 1) := dop_8 (dn_w dw17_1 0 rfl)
theorem dX2_spreadFrom_17 : decode cX2_spreadFrom 17 = .ok (.if_icmp .ne 33, 3) := dop_160 (dn_w dw17_1 1 rfl) rfl
theorem dX2_spreadFrom_20 : decode cX2_spreadFrom 20 = .ok (.aload_n 0, 1) := dop_42 (dn_w dw17_1 4 rfl)
theorem dX2_spreadFrom_21 : decode cX2_spreadFrom 21 = .ok (.getfield 24, 3) := dop_180 (dn_w dw17_1 5 rfl) rfl
theorem dX2_spreadFrom_24 : decode cX2_spreadFrom 24 = .ok (.iload_n 2, 1) := dop_28 (dn_w dw17_1 8 rfl)
theorem dX2_spreadFrom_25 : decode cX2_spreadFrom 25 = .ok (.iaload, 1) := dop_46 (dn_w dw17_1 9 rfl)
theorem dX2_spreadFrom_26 : decode cX2_spreadFrom 26 = .ok (.ifCond .ne 24, 3) := dop_154 (dn_w dw17_1 10 rfl) rfl
theorem dX2_spreadFrom_29 : decode cX2_spreadFrom 29 = .ok (.aload_n 0, 1) := dop_42 (dn_w dw17_1 13 rfl)
theorem dX2_spreadFrom_30 : decode cX2_spreadFrom 30 = .ok (.iload_n 2, 1) := dop_28 (dn_w dw17_1 14 rfl)
theorem dX2_spreadFrom_31 : decode cX2_spreadFrom 31 = .ok (.iload_n 1, 1) := dop_27 (dn_w dw17_1 15 rfl)
theorem dX2_spreadFrom_32 : decode cX2_spreadFrom 32 = .ok (.invokevirtual 119, 3) := dop_182 (dn_w dw17_2 0 rfl) rfl
theorem dX2_spreadFrom_35 : decode cX2_spreadFrom 35 = .ok (.ifCond .eq 15, 3) := dop_153 (dn_w dw17_2 3 rfl) rfl
theorem dX2_spreadFrom_38 : decode cX2_spreadFrom 38 = .ok (.aload_n 0, 1) := dop_42 (dn_w dw17_2 6 rfl)
theorem dX2_spreadFrom_39 : decode cX2_spreadFrom 39 = .ok (.getfield 24, 3) := dop_180 (dn_w dw17_2 7 rfl) rfl
theorem dX2_spreadFrom_42 : decode cX2_spreadFrom 42 = .ok (.iload_n 2, 1) := dop_28 (dn_w dw17_2 10 rfl)
theorem dX2_spreadFrom_43 : decode cX2_spreadFrom 43 = .ok (.aload_n 0, 1) := dop_42 (dn_w dw17_2 11 rfl)
theorem dX2_spreadFrom_44 : decode cX2_spreadFrom 44 = .ok (.getfield 46, 3) := dop_180 (dn_w dw17_2 12 rfl) rfl
theorem dX2_spreadFrom_47 : decode cX2_spreadFrom 47 = .ok (.iconst 3, 1) := dop_6 (dn_w dw17_2 15 rfl)
theorem dX2_spreadFrom_48 : decode cX2_spreadFrom 48 = .ok (.iaload, 1) := dop_46 (dn_w dw17_3 0 rfl)
theorem dX2_spreadFrom_49 : decode cX2_spreadFrom 49 = .ok (.iastore, 1) := dop_79 (dn_w dw17_3 1 rfl)
theorem dX2_spreadFrom_50 : decode cX2_spreadFrom 50 = .ok (.iinc 2 1, 3) := dop_132 (dn_w dw17_3 2 rfl) rfl
theorem dX2_spreadFrom_53 : decode cX2_spreadFrom 53 = .ok (.goto (-51), 3) := dop_167 (dn_w dw17_3 5 rfl) rfl
theorem dX2_spreadFrom_56 : decode cX2_spreadFrom 56 = .ok (.return_, 1) := dop_177 (dn_w dw17_3 8 rfl)
noncomputable def dt18_5 : List Nat := 3 :: 172 :: []
noncomputable def dt18_4 : List Nat := 46 :: 5 :: 46 :: 162 :: 0 :: 9 :: 21 :: 4 :: 7 :: 161 :: 0 :: 7 :: 4 :: 167 :: 0 :: 4 :: dt18_5
noncomputable def dt18_3 : List Nat := 160 :: 0 :: 6 :: 132 :: 3 :: 1 :: 132 :: 5 :: 1 :: 167 :: 255 :: 207 :: 29 :: 42 :: 180 :: 0 :: dt18_4
noncomputable def dt18_2 : List Nat := 132 :: 4 :: 1 :: 42 :: 180 :: 0 :: 18 :: 21 :: 5 :: 46 :: 42 :: 180 :: 0 :: 18 :: 27 :: 46 :: dt18_3
noncomputable def dt18_1 : List Nat := 46 :: 21 :: 5 :: 27 :: 159 :: 0 :: 34 :: 28 :: 21 :: 5 :: 122 :: 4 :: 126 :: 153 :: 0 :: 25 :: dt18_2
noncomputable def dt18_0 : List Nat := 3 :: 62 :: 3 :: 54 :: 4 :: 3 :: 54 :: 5 :: 21 :: 5 :: 42 :: 180 :: 0 :: 33 :: 162 :: 0 :: dt18_1
theorem dw18_0 : dn cX2_isTouched 0 = dt18_0 := by decide +kernel
theorem dw18_1 : dn cX2_isTouched 16 = dt18_1 := dn_w dw18_0 16 rfl
theorem dw18_2 : dn cX2_isTouched 32 = dt18_2 := dn_w dw18_1 16 rfl
theorem dw18_3 : dn cX2_isTouched 48 = dt18_3 := dn_w dw18_2 16 rfl
theorem dw18_4 : dn cX2_isTouched 64 = dt18_4 := dn_w dw18_3 16 rfl
theorem dw18_5 : dn cX2_isTouched 80 = dt18_5 := dn_w dw18_4 16 rfl
theorem dX2_isTouched_0 : decode cX2_isTouched 0 = .ok (.iconst 0, 1) := dop_3 (dn_w dw18_0 0 rfl)
theorem dX2_isTouched_1 : decode cX2_isTouched 1 = .ok (.istore_n 3, 1) := dop_62 (dn_w dw18_0 1 rfl)
theorem dX2_isTouched_2 : decode cX2_isTouched 2 = .ok (.iconst 0, 1) := dop_3 (dn_w dw18_0 2 rfl)
theorem dX2_isTouched_3 : decode cX2_isTouched 3 = .ok (.istore 4, 2) := dop_54 (dn_w dw18_0 3 rfl)
theorem dX2_isTouched_5 : decode cX2_isTouched 5 = .ok (.iconst 0, 1) := dop_3 (dn_w dw18_0 5 rfl)
theorem dX2_isTouched_6 : decode cX2_isTouched 6 = .ok (.istore 5, 2) := dop_54 (dn_w dw18_0 6 rfl)
theorem dX2_isTouched_8 : decode cX2_isTouched 8 = .ok (.iload 5, 2) := dop_21 (dn_w dw18_0 8 rfl)
theorem dX2_isTouched_10 : decode cX2_isTouched 10 = .ok (.aload_n 0, 1) := dop_42 (dn_w dw18_0 10 rfl)
theorem dX2_isTouched_11 : decode cX2_isTouched 11 = .ok (.getfield 33, 3) := dop_180 (dn_w dw18_0 11 rfl) rfl
theorem dX2_isTouched_14 : decode cX2_isTouched 14 = .ok (.if_icmp .ge 46, 3) := dop_162 (dn_w dw18_0 14 rfl) rfl
theorem dX2_isTouched_17 : decode cX2_isTouched 17 = .ok (.iload 5, 2) := dop_21 (dn_w dw18_1 1 rfl)
theorem dX2_isTouched_19 : decode cX2_isTouched 19 = .ok (.iload_n 1, 1) := dop_27 (dn_w dw18_1 3 rfl)
theorem dX2_isTouched_20 : decode cX2_isTouched 20 = .ok (.if_icmp .eq 34, 3) := dop_159 (dn_w dw18_1 4 rfl) rfl
theorem dX2_isTouched_23 : decode cX2_isTouched 23 = .ok (.iload_n 2, 1) := dop_28 (dn_w dw18_1 7 rfl)
theorem dX2_isTouched_24 : decode cX2_isTouched 24 = .ok (.iload 5, 2) := dop_21 (dn_w dw18_1 8 rfl)
theorem dX2_isTouched_26 : decode cX2_isTouched 26 = .ok (.ishr, 1) := dop_122 (dn_w dw18_1 10 rfl)
theorem dX2_isTouched_27 : decode cX2_isTouched 27 = .ok (.iconst 1, 1) := dop_4 (dn_w dw18_1 11 rfl)
theorem dX2_isTouched_28 : decode cX2_isTouched 28 = .ok (.iand, 1) := dop_126 (dn_w dw18_1 12 rfl)
theorem dX2_isTouched_29 : decode cX2_isTouched 29 = .ok (.ifCond .eq 25, 3) := dop_153 (dn_w dw18_1 13 rfl) rfl
theorem dX2_isTouched_32 : decode cX2_isTouched 32 = .ok (.iinc 4 1, 3) := dop_132 (dn_w dw18_2 0 rfl) rfl
theorem dX2_isTouched_35 : decode cX2_isTouched 35 = .ok (.aload_n 0, 1) := dop_42 (dn_w dw18_2 3 rfl)
theorem dX2_isTouched_36 : decode cX2_isTouched 36 = .ok (.getfield 18, 3) := dop_180 (dn_w dw18_2 4 rfl) rfl
theorem dX2_isTouched_39 : decode cX2_isTouched 39 = .ok (.iload 5, 2) := dop_21 (dn_w dw18_2 7 rfl)
theorem dX2_isTouched_41 : decode cX2_isTouched 41 = .ok (.iaload, 1) := dop_46 (dn_w dw18_2 9 rfl)
theorem dX2_isTouched_42 : decode cX2_isTouched 42 = .ok (.aload_n 0, 1) := dop_42 (dn_w dw18_2 10 rfl)
theorem dX2_isTouched_43 : decode cX2_isTouched 43 = .ok (.getfield 18, 3) := dop_180 (dn_w dw18_2 11 rfl) rfl
theorem dX2_isTouched_46 : decode cX2_isTouched 46 = .ok (.iload_n 1, 1) := dop_27 (dn_w dw18_2 14 rfl)
theorem dX2_isTouched_47 : decode cX2_isTouched 47 = .ok (.iaload, 1) := dop_46 (dn_w dw18_2 15 rfl)
theorem dX2_isTouched_48 : decode cX2_isTouched 48 = .ok (.if_icmp .ne 6, 3) := dop_160 (dn_w dw18_3 0 rfl) rfl
theorem dX2_isTouched_51 : decode cX2_isTouched 51 = .ok (.iinc 3 1, 3) := dop_132 (dn_w dw18_3 3 rfl) rfl
theorem dX2_isTouched_54 : decode cX2_isTouched 54 = .ok (.iinc 5 1, 3) := dop_132 (dn_w dw18_3 6 rfl) rfl
theorem dX2_isTouched_57 : decode cX2_isTouched 57 = .ok (.goto (-49), 3) := dop_167 (dn_w dw18_3 9 rfl) rfl
theorem dX2_isTouched_60 : decode cX2_isTouched 60 = .ok (.iload_n 3, 1) := dop_29 (dn_w dw18_3 12 rfl)
theorem dX2_isTouched_61 : decode cX2_isTouched 61 = .ok (.aload_n 0, 1) := dop_42 (dn_w dw18_3 13 rfl)
theorem dX2_isTouched_62 : decode cX2_isTouched 62 = .ok (.getfield 46, 3) := dop_180 (dn_w dw18_3 14 rfl) rfl
theorem dX2_isTouched_65 : decode cX2_isTouched 65 = .ok (.iconst 2, 1) := dop_5 (dn_w dw18_4 1 rfl)
theorem dX2_isTouched_66 : decode cX2_isTouched 66 = .ok (.iaload, 1) := dop_46 (dn_w dw18_4 2 rfl)
theorem dX2_isTouched_67 : decode cX2_isTouched 67 = .ok (.if_icmp .ge 9, 3) := dop_162 (dn_w dw18_4 3 rfl) rfl
theorem dX2_isTouched_70 : decode cX2_isTouched 70 = .ok (.iload 4, 2) := dop_21 (dn_w dw18_4 6 rfl)
theorem dX2_isTouched_72 : decode cX2_isTouched 72 = .ok (.iconst 4, 1) := dop_7 (dn_w dw18_4 8 rfl)
theorem dX2_isTouched_73 : decode cX2_isTouched 73 = .ok (.if_icmp .lt 7, 3) := dop_161 (dn_w dw18_4 9 rfl) rfl
theorem dX2_isTouched_76 : decode cX2_isTouched 76 = .ok (.iconst 1, 1) := dop_4 (dn_w dw18_4 12 rfl)
theorem dX2_isTouched_77 : decode cX2_isTouched 77 = .ok (.goto 4, 3) := dop_167 (dn_w dw18_4 13 rfl) rfl
theorem dX2_isTouched_80 : decode cX2_isTouched 80 = .ok (.iconst 0, 1) := dop_3 (dn_w dw18_5 0 rfl)
theorem dX2_isTouched_81 : decode cX2_isTouched 81 = .ok (.ireturn, 1) := dop_172 (dn_w dw18_5 1 rfl)
noncomputable def dt19_2 : List Nat := 46 :: 79 :: 132 :: 2 :: 1 :: 132 :: 3 :: 1 :: 167 :: 255 :: 220 :: 28 :: 172 :: []
noncomputable def dt19_1 : List Nat := 29 :: 46 :: 27 :: 160 :: 0 :: 18 :: 42 :: 180 :: 0 :: 27 :: 29 :: 42 :: 180 :: 0 :: 46 :: 3 :: dt19_2
noncomputable def dt19_0 : List Nat := 3 :: 61 :: 3 :: 62 :: 29 :: 42 :: 180 :: 0 :: 33 :: 162 :: 0 :: 34 :: 42 :: 180 :: 0 :: 18 :: dt19_1
theorem dw19_0 : dn cX2_knockAt 0 = dt19_0 := by decide +kernel
theorem dw19_1 : dn cX2_knockAt 16 = dt19_1 := dn_w dw19_0 16 rfl
theorem dw19_2 : dn cX2_knockAt 32 = dt19_2 := dn_w dw19_1 16 rfl
theorem dX2_knockAt_0 : decode cX2_knockAt 0 = .ok (.iconst 0, 1) := dop_3 (dn_w dw19_0 0 rfl)
theorem dX2_knockAt_1 : decode cX2_knockAt 1 = .ok (.istore_n 2, 1) := dop_61 (dn_w dw19_0 1 rfl)
theorem dX2_knockAt_2 : decode cX2_knockAt 2 = .ok (.iconst 0, 1) := dop_3 (dn_w dw19_0 2 rfl)
theorem dX2_knockAt_3 : decode cX2_knockAt 3 = .ok (.istore_n 3, 1) := dop_62 (dn_w dw19_0 3 rfl)
theorem dX2_knockAt_4 : decode cX2_knockAt 4 = .ok (.iload_n 3, 1) := dop_29 (dn_w dw19_0 4 rfl)
theorem dX2_knockAt_5 : decode cX2_knockAt 5 = .ok (.aload_n 0, 1) := dop_42 (dn_w dw19_0 5 rfl)
theorem dX2_knockAt_6 : decode cX2_knockAt 6 = .ok (.getfield 33, 3) := dop_180 (dn_w dw19_0 6 rfl) rfl
theorem dX2_knockAt_9 : decode cX2_knockAt 9 = .ok (.if_icmp .ge 34, 3) := dop_162 (dn_w dw19_0 9 rfl) rfl
theorem dX2_knockAt_12 : decode cX2_knockAt 12 = .ok (.aload_n 0, 1) := dop_42 (dn_w dw19_0 12 rfl)
theorem dX2_knockAt_13 : decode cX2_knockAt 13 = .ok (.getfield 18, 3) := dop_180 (dn_w dw19_0 13 rfl) rfl
theorem dX2_knockAt_16 : decode cX2_knockAt 16 = .ok (.iload_n 3, 1) := dop_29 (dn_w dw19_1 0 rfl)
theorem dX2_knockAt_17 : decode cX2_knockAt 17 = .ok (.iaload, 1) := dop_46 (dn_w dw19_1 1 rfl)
theorem dX2_knockAt_18 : decode cX2_knockAt 18 = .ok (.iload_n 1, 1) := dop_27 (dn_w dw19_1 2 rfl)
theorem dX2_knockAt_19 : decode cX2_knockAt 19 = .ok (.if_icmp .ne 18, 3) := dop_160 (dn_w dw19_1 3 rfl) rfl
theorem dX2_knockAt_22 : decode cX2_knockAt 22 = .ok (.aload_n 0, 1) := dop_42 (dn_w dw19_1 6 rfl)
theorem dX2_knockAt_23 : decode cX2_knockAt 23 = .ok (.getfield 27, 3) := dop_180 (dn_w dw19_1 7 rfl) rfl
theorem dX2_knockAt_26 : decode cX2_knockAt 26 = .ok (.iload_n 3, 1) := dop_29 (dn_w dw19_1 10 rfl)
theorem dX2_knockAt_27 : decode cX2_knockAt 27 = .ok (.aload_n 0, 1) := dop_42 (dn_w dw19_1 11 rfl)
theorem dX2_knockAt_28 : decode cX2_knockAt 28 = .ok (.getfield 46, 3) := dop_180 (dn_w dw19_1 12 rfl) rfl
theorem dX2_knockAt_31 : decode cX2_knockAt 31 = .ok (.iconst 0, 1) := dop_3 (dn_w dw19_1 15 rfl)
theorem dX2_knockAt_32 : decode cX2_knockAt 32 = .ok (.iaload, 1) := dop_46 (dn_w dw19_2 0 rfl)
theorem dX2_knockAt_33 : decode cX2_knockAt 33 = .ok (.iastore, 1) := dop_79 (dn_w dw19_2 1 rfl)
theorem dX2_knockAt_34 : decode cX2_knockAt 34 = .ok (.iinc 2 1, 3) := dop_132 (dn_w dw19_2 2 rfl) rfl
theorem dX2_knockAt_37 : decode cX2_knockAt 37 = .ok (.iinc 3 1, 3) := dop_132 (dn_w dw19_2 5 rfl) rfl
theorem dX2_knockAt_40 : decode cX2_knockAt 40 = .ok (.goto (-36), 3) := dop_167 (dn_w dw19_2 8 rfl) rfl
theorem dX2_knockAt_43 : decode cX2_knockAt 43 = .ok (.iload_n 2, 1) := dop_28 (dn_w dw19_2 11 rfl)
theorem dX2_knockAt_44 : decode cX2_knockAt 44 = .ok (.ireturn, 1) := dop_172 (dn_w dw19_2 12 rfl)
noncomputable def dt20_1 : List Nat := 4 :: 3 :: 172 :: []
noncomputable def dt20_0 : List Nat := 42 :: 180 :: 0 :: 40 :: 27 :: 46 :: 28 :: 122 :: 4 :: 126 :: 153 :: 0 :: 7 :: 4 :: 167 :: 0 :: dt20_1
theorem dw20_0 : dn cX2_hasCross 0 = dt20_0 := by decide +kernel
theorem dw20_1 : dn cX2_hasCross 16 = dt20_1 := dn_w dw20_0 16 rfl
theorem dX2_hasCross_0 : decode cX2_hasCross 0 = .ok (.aload_n 0, 1) := dop_42 (dn_w dw20_0 0 rfl)
theorem dX2_hasCross_1 : decode cX2_hasCross 1 = .ok (.getfield 40, 3) := dop_180 (dn_w dw20_0 1 rfl) rfl
theorem dX2_hasCross_4 : decode cX2_hasCross 4 = .ok (.iload_n 1, 1) := dop_27 (dn_w dw20_0 4 rfl)
theorem dX2_hasCross_5 : decode cX2_hasCross 5 = .ok (.iaload, 1) := dop_46 (dn_w dw20_0 5 rfl)
theorem dX2_hasCross_6 : decode cX2_hasCross 6 = .ok (.iload_n 2, 1) := dop_28 (dn_w dw20_0 6 rfl)
theorem dX2_hasCross_7 : decode cX2_hasCross 7 = .ok (.ishr, 1) := dop_122 (dn_w dw20_0 7 rfl)
theorem dX2_hasCross_8 : decode cX2_hasCross 8 = .ok (.iconst 1, 1) := dop_4 (dn_w dw20_0 8 rfl)
theorem dX2_hasCross_9 : decode cX2_hasCross 9 = .ok (.iand, 1) := dop_126 (dn_w dw20_0 9 rfl)
theorem dX2_hasCross_10 : decode cX2_hasCross 10 = .ok (.ifCond .eq 7, 3) := dop_153 (dn_w dw20_0 10 rfl) rfl
theorem dX2_hasCross_13 : decode cX2_hasCross 13 = .ok (.iconst 1, 1) := dop_4 (dn_w dw20_0 13 rfl)
theorem dX2_hasCross_14 : decode cX2_hasCross 14 = .ok (.goto 4, 3) := dop_167 (dn_w dw20_0 14 rfl) rfl
theorem dX2_hasCross_17 : decode cX2_hasCross 17 = .ok (.iconst 0, 1) := dop_3 (dn_w dw20_1 1 rfl)
theorem dX2_hasCross_18 : decode cX2_hasCross 18 = .ok (.ireturn, 1) := dop_172 (dn_w dw20_1 2 rfl)
noncomputable def dt21_1 : List Nat := 46 :: 184 :: 0 :: 123 :: 96 :: 60 :: 132 :: 2 :: 1 :: 167 :: 255 :: 235 :: 27 :: 172 :: []
noncomputable def dt21_0 : List Nat := 3 :: 60 :: 3 :: 61 :: 28 :: 16 :: 40 :: 162 :: 0 :: 21 :: 27 :: 42 :: 180 :: 0 :: 40 :: 28 :: dt21_1
theorem dw21_0 : dn cX2_allCrosses 0 = dt21_0 := by decide +kernel
theorem dw21_1 : dn cX2_allCrosses 16 = dt21_1 := dn_w dw21_0 16 rfl
theorem dX2_allCrosses_0 : decode cX2_allCrosses 0 = .ok (.iconst 0, 1) := dop_3 (dn_w dw21_0 0 rfl)
theorem dX2_allCrosses_1 : decode cX2_allCrosses 1 = .ok (.istore_n 1, 1) := dop_60 (dn_w dw21_0 1 rfl)
theorem dX2_allCrosses_2 : decode cX2_allCrosses 2 = .ok (.iconst 0, 1) := dop_3 (dn_w dw21_0 2 rfl)
theorem dX2_allCrosses_3 : decode cX2_allCrosses 3 = .ok (.istore_n 2, 1) := dop_61 (dn_w dw21_0 3 rfl)
theorem dX2_allCrosses_4 : decode cX2_allCrosses 4 = .ok (.iload_n 2, 1) := dop_28 (dn_w dw21_0 4 rfl)
theorem dX2_allCrosses_5 : decode cX2_allCrosses 5 = .ok (.bipush 40, 2) := dop_16 (dn_w dw21_0 5 rfl) rfl
theorem dX2_allCrosses_7 : decode cX2_allCrosses 7 = .ok (.if_icmp .ge 21, 3) := dop_162 (dn_w dw21_0 7 rfl) rfl
theorem dX2_allCrosses_10 : decode cX2_allCrosses 10 = .ok (.iload_n 1, 1) := dop_27 (dn_w dw21_0 10 rfl)
theorem dX2_allCrosses_11 : decode cX2_allCrosses 11 = .ok (.aload_n 0, 1) := dop_42 (dn_w dw21_0 11 rfl)
theorem dX2_allCrosses_12 : decode cX2_allCrosses 12 = .ok (.getfield 40, 3) := dop_180 (dn_w dw21_0 12 rfl) rfl
theorem dX2_allCrosses_15 : decode cX2_allCrosses 15 = .ok (.iload_n 2, 1) := dop_28 (dn_w dw21_0 15 rfl)
theorem dX2_allCrosses_16 : decode cX2_allCrosses 16 = .ok (.iaload, 1) := dop_46 (dn_w dw21_1 0 rfl)
theorem dX2_allCrosses_17 : decode cX2_allCrosses 17 = .ok (.invokestatic 123, 3) := dop_184 (dn_w dw21_1 1 rfl) rfl
theorem dX2_allCrosses_20 : decode cX2_allCrosses 20 = .ok (.iadd, 1) := dop_96 (dn_w dw21_1 4 rfl)
theorem dX2_allCrosses_21 : decode cX2_allCrosses 21 = .ok (.istore_n 1, 1) := dop_60 (dn_w dw21_1 5 rfl)
theorem dX2_allCrosses_22 : decode cX2_allCrosses 22 = .ok (.iinc 2 1, 3) := dop_132 (dn_w dw21_1 6 rfl) rfl
theorem dX2_allCrosses_25 : decode cX2_allCrosses 25 = .ok (.goto (-21), 3) := dop_167 (dn_w dw21_1 9 rfl) rfl
theorem dX2_allCrosses_28 : decode cX2_allCrosses 28 = .ok (.iload_n 1, 1) := dop_27 (dn_w dw21_1 12 rfl)
theorem dX2_allCrosses_29 : decode cX2_allCrosses 29 = .ok (.ireturn, 1) := dop_172 (dn_w dw21_1 13 rfl)
noncomputable def dt22_2 : List Nat := 2 :: 1 :: 167 :: 255 :: 226 :: 27 :: 172 :: []
noncomputable def dt22_1 : List Nat := 46 :: 42 :: 180 :: 0 :: 43 :: 28 :: 46 :: 2 :: 130 :: 126 :: 184 :: 0 :: 123 :: 96 :: 60 :: 132 :: dt22_2
noncomputable def dt22_0 : List Nat := 3 :: 60 :: 3 :: 61 :: 28 :: 16 :: 40 :: 162 :: 0 :: 30 :: 27 :: 42 :: 180 :: 0 :: 40 :: 28 :: dt22_1
theorem dw22_0 : dn cX2_falseCrosses 0 = dt22_0 := by decide +kernel
theorem dw22_1 : dn cX2_falseCrosses 16 = dt22_1 := dn_w dw22_0 16 rfl
theorem dw22_2 : dn cX2_falseCrosses 32 = dt22_2 := dn_w dw22_1 16 rfl
theorem dX2_falseCrosses_0 : decode cX2_falseCrosses 0 = .ok (.iconst 0, 1) := dop_3 (dn_w dw22_0 0 rfl)
theorem dX2_falseCrosses_1 : decode cX2_falseCrosses 1 = .ok (.istore_n 1, 1) := dop_60 (dn_w dw22_0 1 rfl)
theorem dX2_falseCrosses_2 : decode cX2_falseCrosses 2 = .ok (.iconst 0, 1) := dop_3 (dn_w dw22_0 2 rfl)
theorem dX2_falseCrosses_3 : decode cX2_falseCrosses 3 = .ok (.istore_n 2, 1) := dop_61 (dn_w dw22_0 3 rfl)
theorem dX2_falseCrosses_4 : decode cX2_falseCrosses 4 = .ok (.iload_n 2, 1) := dop_28 (dn_w dw22_0 4 rfl)
theorem dX2_falseCrosses_5 : decode cX2_falseCrosses 5 = .ok (.bipush 40, 2) := dop_16 (dn_w dw22_0 5 rfl) rfl
theorem dX2_falseCrosses_7 : decode cX2_falseCrosses 7 = .ok (.if_icmp .ge 30, 3) := dop_162 (dn_w dw22_0 7 rfl) rfl
theorem dX2_falseCrosses_10 : decode cX2_falseCrosses 10 = .ok (.iload_n 1, 1) := dop_27 (dn_w dw22_0 10 rfl)
theorem dX2_falseCrosses_11 : decode cX2_falseCrosses 11 = .ok (.aload_n 0, 1) := dop_42 (dn_w dw22_0 11 rfl)
theorem dX2_falseCrosses_12 : decode cX2_falseCrosses 12 = .ok (.getfield 40, 3) := dop_180 (dn_w dw22_0 12 rfl) rfl
theorem dX2_falseCrosses_15 : decode cX2_falseCrosses 15 = .ok (.iload_n 2, 1) := dop_28 (dn_w dw22_0 15 rfl)
theorem dX2_falseCrosses_16 : decode cX2_falseCrosses 16 = .ok (.iaload, 1) := dop_46 (dn_w dw22_1 0 rfl)
theorem dX2_falseCrosses_17 : decode cX2_falseCrosses 17 = .ok (.aload_n 0, 1) := dop_42 (dn_w dw22_1 1 rfl)
theorem dX2_falseCrosses_18 : decode cX2_falseCrosses 18 = .ok (.getfield 43, 3) := dop_180 (dn_w dw22_1 2 rfl) rfl
theorem dX2_falseCrosses_21 : decode cX2_falseCrosses 21 = .ok (.iload_n 2, 1) := dop_28 (dn_w dw22_1 5 rfl)
theorem dX2_falseCrosses_22 : decode cX2_falseCrosses 22 = .ok (.iaload, 1) := dop_46 (dn_w dw22_1 6 rfl)
theorem dX2_falseCrosses_23 : decode cX2_falseCrosses 23 = .ok (.iconst (-1), 1) := dop_2 (dn_w dw22_1 7 rfl)
theorem dX2_falseCrosses_24 : decode cX2_falseCrosses 24 = .ok (.ixor, 1) := dop_130 (dn_w dw22_1 8 rfl)
theorem dX2_falseCrosses_25 : decode cX2_falseCrosses 25 = .ok (.iand, 1) := dop_126 (dn_w dw22_1 9 rfl)
theorem dX2_falseCrosses_26 : decode cX2_falseCrosses 26 = .ok (.invokestatic 123, 3) := dop_184 (dn_w dw22_1 10 rfl) rfl
theorem dX2_falseCrosses_29 : decode cX2_falseCrosses 29 = .ok (.iadd, 1) := dop_96 (dn_w dw22_1 13 rfl)
theorem dX2_falseCrosses_30 : decode cX2_falseCrosses 30 = .ok (.istore_n 1, 1) := dop_60 (dn_w dw22_1 14 rfl)
theorem dX2_falseCrosses_31 : decode cX2_falseCrosses 31 = .ok (.iinc 2 1, 3) := dop_132 (dn_w dw22_1 15 rfl) rfl
theorem dX2_falseCrosses_34 : decode cX2_falseCrosses 34 = .ok (.goto (-30), 3) := dop_167 (dn_w dw22_2 2 rfl) rfl
theorem dX2_falseCrosses_37 : decode cX2_falseCrosses 37 = .ok (.iload_n 1, 1) := dop_27 (dn_w dw22_2 5 rfl)
theorem dX2_falseCrosses_38 : decode cX2_falseCrosses 38 = .ok (.ireturn, 1) := dop_172 (dn_w dw22_2 6 rfl)
noncomputable def dt23_2 : List Nat := 2 :: 1 :: 167 :: 255 :: 226 :: 27 :: 172 :: []
noncomputable def dt23_1 : List Nat := 46 :: 42 :: 180 :: 0 :: 40 :: 28 :: 46 :: 2 :: 130 :: 126 :: 184 :: 0 :: 123 :: 96 :: 60 :: 132 :: dt23_2
noncomputable def dt23_0 : List Nat := 3 :: 60 :: 3 :: 61 :: 28 :: 16 :: 40 :: 162 :: 0 :: 30 :: 27 :: 42 :: 180 :: 0 :: 43 :: 28 :: dt23_1
theorem dw23_0 : dn cX2_lostCrosses 0 = dt23_0 := by decide +kernel
theorem dw23_1 : dn cX2_lostCrosses 16 = dt23_1 := dn_w dw23_0 16 rfl
theorem dw23_2 : dn cX2_lostCrosses 32 = dt23_2 := dn_w dw23_1 16 rfl
theorem dX2_lostCrosses_0 : decode cX2_lostCrosses 0 = .ok (.iconst 0, 1) := dop_3 (dn_w dw23_0 0 rfl)
theorem dX2_lostCrosses_1 : decode cX2_lostCrosses 1 = .ok (.istore_n 1, 1) := dop_60 (dn_w dw23_0 1 rfl)
theorem dX2_lostCrosses_2 : decode cX2_lostCrosses 2 = .ok (.iconst 0, 1) := dop_3 (dn_w dw23_0 2 rfl)
theorem dX2_lostCrosses_3 : decode cX2_lostCrosses 3 = .ok (.istore_n 2, 1) := dop_61 (dn_w dw23_0 3 rfl)
theorem dX2_lostCrosses_4 : decode cX2_lostCrosses 4 = .ok (.iload_n 2, 1) := dop_28 (dn_w dw23_0 4 rfl)
theorem dX2_lostCrosses_5 : decode cX2_lostCrosses 5 = .ok (.bipush 40, 2) := dop_16 (dn_w dw23_0 5 rfl) rfl
theorem dX2_lostCrosses_7 : decode cX2_lostCrosses 7 = .ok (.if_icmp .ge 30, 3) := dop_162 (dn_w dw23_0 7 rfl) rfl
theorem dX2_lostCrosses_10 : decode cX2_lostCrosses 10 = .ok (.iload_n 1, 1) := dop_27 (dn_w dw23_0 10 rfl)
theorem dX2_lostCrosses_11 : decode cX2_lostCrosses 11 = .ok (.aload_n 0, 1) := dop_42 (dn_w dw23_0 11 rfl)
theorem dX2_lostCrosses_12 : decode cX2_lostCrosses 12 = .ok (.getfield 43, 3) := dop_180 (dn_w dw23_0 12 rfl) rfl
theorem dX2_lostCrosses_15 : decode cX2_lostCrosses 15 = .ok (.iload_n 2, 1) := dop_28 (dn_w dw23_0 15 rfl)
theorem dX2_lostCrosses_16 : decode cX2_lostCrosses 16 = .ok (.iaload, 1) := dop_46 (dn_w dw23_1 0 rfl)
theorem dX2_lostCrosses_17 : decode cX2_lostCrosses 17 = .ok (.aload_n 0, 1) := dop_42 (dn_w dw23_1 1 rfl)
theorem dX2_lostCrosses_18 : decode cX2_lostCrosses 18 = .ok (.getfield 40, 3) := dop_180 (dn_w dw23_1 2 rfl) rfl
theorem dX2_lostCrosses_21 : decode cX2_lostCrosses 21 = .ok (.iload_n 2, 1) := dop_28 (dn_w dw23_1 5 rfl)
theorem dX2_lostCrosses_22 : decode cX2_lostCrosses 22 = .ok (.iaload, 1) := dop_46 (dn_w dw23_1 6 rfl)
theorem dX2_lostCrosses_23 : decode cX2_lostCrosses 23 = .ok (.iconst (-1), 1) := dop_2 (dn_w dw23_1 7 rfl)
theorem dX2_lostCrosses_24 : decode cX2_lostCrosses 24 = .ok (.ixor, 1) := dop_130 (dn_w dw23_1 8 rfl)
theorem dX2_lostCrosses_25 : decode cX2_lostCrosses 25 = .ok (.iand, 1) := dop_126 (dn_w dw23_1 9 rfl)
theorem dX2_lostCrosses_26 : decode cX2_lostCrosses 26 = .ok (.invokestatic 123, 3) := dop_184 (dn_w dw23_1 10 rfl) rfl
theorem dX2_lostCrosses_29 : decode cX2_lostCrosses 29 = .ok (.iadd, 1) := dop_96 (dn_w dw23_1 13 rfl)
theorem dX2_lostCrosses_30 : decode cX2_lostCrosses 30 = .ok (.istore_n 1, 1) := dop_60 (dn_w dw23_1 14 rfl)
theorem dX2_lostCrosses_31 : decode cX2_lostCrosses 31 = .ok (.iinc 2 1, 3) := dop_132 (dn_w dw23_1 15 rfl) rfl
theorem dX2_lostCrosses_34 : decode cX2_lostCrosses 34 = .ok (.goto (-30), 3) := dop_167 (dn_w dw23_2 2 rfl) rfl
theorem dX2_lostCrosses_37 : decode cX2_lostCrosses 37 = .ok (.iload_n 1, 1) := dop_27 (dn_w dw23_2 5 rfl)
theorem dX2_lostCrosses_38 : decode cX2_lostCrosses 38 = .ok (.ireturn, 1) := dop_172 (dn_w dw23_2 6 rfl)
noncomputable def dt24_2 : List Nat := 247 :: 172 :: []
noncomputable def dt24_1 : List Nat := 0 :: 43 :: 27 :: 46 :: 159 :: 0 :: 5 :: 27 :: 172 :: 132 :: 1 :: 1 :: 167 :: 255 :: 230 :: 16 :: dt24_2
noncomputable def dt24_0 : List Nat := 3 :: 60 :: 27 :: 16 :: 40 :: 162 :: 0 :: 26 :: 42 :: 180 :: 0 :: 40 :: 27 :: 46 :: 42 :: 180 :: dt24_1
theorem dw24_0 : dn cX2_firstWrongDay 0 = dt24_0 := by decide +kernel
theorem dw24_1 : dn cX2_firstWrongDay 16 = dt24_1 := dn_w dw24_0 16 rfl
theorem dw24_2 : dn cX2_firstWrongDay 32 = dt24_2 := dn_w dw24_1 16 rfl
theorem dX2_firstWrongDay_0 : decode cX2_firstWrongDay 0 = .ok (.iconst 0, 1) := dop_3 (dn_w dw24_0 0 rfl)
theorem dX2_firstWrongDay_1 : decode cX2_firstWrongDay 1 = .ok (.istore_n 1, 1) := dop_60 (dn_w dw24_0 1 rfl)
theorem dX2_firstWrongDay_2 : decode cX2_firstWrongDay 2 = .ok (.iload_n 1, 1) := dop_27 (dn_w dw24_0 2 rfl)
theorem dX2_firstWrongDay_3 : decode cX2_firstWrongDay 3 = .ok (.bipush 40, 2) := dop_16 (dn_w dw24_0 3 rfl) rfl
theorem dX2_firstWrongDay_5 : decode cX2_firstWrongDay 5 = .ok (.if_icmp .ge 26, 3) := dop_162 (dn_w dw24_0 5 rfl) rfl
theorem dX2_firstWrongDay_8 : decode cX2_firstWrongDay 8 = .ok (.aload_n 0, 1) := dop_42 (dn_w dw24_0 8 rfl)
theorem dX2_firstWrongDay_9 : decode cX2_firstWrongDay 9 = .ok (.getfield 40, 3) := dop_180 (dn_w dw24_0 9 rfl) rfl
theorem dX2_firstWrongDay_12 : decode cX2_firstWrongDay 12 = .ok (.iload_n 1, 1) := dop_27 (dn_w dw24_0 12 rfl)
theorem dX2_firstWrongDay_13 : decode cX2_firstWrongDay 13 = .ok (.iaload, 1) := dop_46 (dn_w dw24_0 13 rfl)
theorem dX2_firstWrongDay_14 : decode cX2_firstWrongDay 14 = .ok (.aload_n 0, 1) := dop_42 (dn_w dw24_0 14 rfl)
theorem dX2_firstWrongDay_15 : decode cX2_firstWrongDay 15 = .ok (.getfield 43, 3) := dop_180 (dn_w dw24_0 15 rfl) rfl
theorem dX2_firstWrongDay_18 : decode cX2_firstWrongDay 18 = .ok (.iload_n 1, 1) := dop_27 (dn_w dw24_1 2 rfl)
theorem dX2_firstWrongDay_19 : decode cX2_firstWrongDay 19 = .ok (.iaload, 1) := dop_46 (dn_w dw24_1 3 rfl)
theorem dX2_firstWrongDay_20 : decode cX2_firstWrongDay 20 = .ok (.if_icmp .eq 5, 3) := dop_159 (dn_w dw24_1 4 rfl) rfl
theorem dX2_firstWrongDay_23 : decode cX2_firstWrongDay 23 = .ok (.iload_n 1, 1) := dop_27 (dn_w dw24_1 7 rfl)
theorem dX2_firstWrongDay_24 : decode cX2_firstWrongDay 24 = .ok (.ireturn, 1) := dop_172 (dn_w dw24_1 8 rfl)
theorem dX2_firstWrongDay_25 : decode cX2_firstWrongDay 25 = .ok (.iinc 1 1, 3) := dop_132 (dn_w dw24_1 9 rfl) rfl
theorem dX2_firstWrongDay_28 : decode cX2_firstWrongDay 28 = .ok (.goto (-26), 3) := dop_167 (dn_w dw24_1 12 rfl) rfl
theorem dX2_firstWrongDay_31 : decode cX2_firstWrongDay 31 = .ok (.bipush (-9), 2) := dop_16 (dn_w dw24_1 15 rfl) rfl
theorem dX2_firstWrongDay_33 : decode cX2_firstWrongDay 33 = .ok (.ireturn, 1) := dop_172 (dn_w dw24_2 1 rfl)
noncomputable def dt25_3 : List Nat := 4 :: 1 :: 167 :: 255 :: 213 :: 28 :: 172 :: []
noncomputable def dt25_2 : List Nat := 7 :: 3 :: 167 :: 0 :: 6 :: 29 :: 4 :: 96 :: 62 :: 28 :: 29 :: 184 :: 0 :: 109 :: 61 :: 132 :: dt25_3
noncomputable def dt25_1 : List Nat := 21 :: 4 :: 16 :: 40 :: 162 :: 0 :: 33 :: 42 :: 21 :: 4 :: 27 :: 182 :: 0 :: 129 :: 153 :: 0 :: dt25_2
noncomputable def dt25_0 : List Nat := 3 :: 61 :: 3 :: 62 :: 3 :: 54 :: 4 :: 21 :: 4 :: 42 :: 180 :: 0 :: 49 :: 162 :: 0 :: 40 :: dt25_1
theorem dw25_0 : dn cX2_longestWithoutCross 0 = dt25_0 := by decide +kernel
theorem dw25_1 : dn cX2_longestWithoutCross 16 = dt25_1 := dn_w dw25_0 16 rfl
theorem dw25_2 : dn cX2_longestWithoutCross 32 = dt25_2 := dn_w dw25_1 16 rfl
theorem dw25_3 : dn cX2_longestWithoutCross 48 = dt25_3 := dn_w dw25_2 16 rfl
theorem dX2_longestWithoutCross_0 : decode cX2_longestWithoutCross 0 = .ok (.iconst 0, 1) := dop_3 (dn_w dw25_0 0 rfl)
theorem dX2_longestWithoutCross_1 : decode cX2_longestWithoutCross 1 = .ok (.istore_n 2, 1) := dop_61 (dn_w dw25_0 1 rfl)
theorem dX2_longestWithoutCross_2 : decode cX2_longestWithoutCross 2 = .ok (.iconst 0, 1) := dop_3 (dn_w dw25_0 2 rfl)
theorem dX2_longestWithoutCross_3 : decode cX2_longestWithoutCross 3 = .ok (.istore_n 3, 1) := dop_62 (dn_w dw25_0 3 rfl)
theorem dX2_longestWithoutCross_4 : decode cX2_longestWithoutCross 4 = .ok (.iconst 0, 1) := dop_3 (dn_w dw25_0 4 rfl)
theorem dX2_longestWithoutCross_5 : decode cX2_longestWithoutCross 5 = .ok (.istore 4, 2) := dop_54 (dn_w dw25_0 5 rfl)
theorem dX2_longestWithoutCross_7 : decode cX2_longestWithoutCross 7 = .ok (.iload 4, 2) := dop_21 (dn_w dw25_0 7 rfl)
theorem dX2_longestWithoutCross_9 : decode cX2_longestWithoutCross 9 = .ok (.aload_n 0, 1) := dop_42 (dn_w dw25_0 9 rfl)
theorem dX2_longestWithoutCross_10 : decode cX2_longestWithoutCross 10 = .ok (.getfield 49, 3) := dop_180 (dn_w dw25_0 10 rfl) rfl
theorem dX2_longestWithoutCross_13 : decode cX2_longestWithoutCross 13 = .ok (.if_icmp .ge 40, 3) := dop_162 (dn_w dw25_0 13 rfl) rfl
theorem dX2_longestWithoutCross_16 : decode cX2_longestWithoutCross 16 = .ok (.iload 4, 2) := dop_21 (dn_w dw25_1 0 rfl)
theorem dX2_longestWithoutCross_18 : decode cX2_longestWithoutCross 18 = .ok (.bipush 40, 2) := dop_16 (dn_w dw25_1 2 rfl) rfl
theorem dX2_longestWithoutCross_20 : decode cX2_longestWithoutCross 20 = .ok (.if_icmp .ge 33, 3) := dop_162 (dn_w dw25_1 4 rfl) rfl
theorem dX2_longestWithoutCross_23 : decode cX2_longestWithoutCross 23 = .ok (.aload_n 0, 1) := dop_42 (dn_w dw25_1 7 rfl)
theorem dX2_longestWithoutCross_24 : decode cX2_longestWithoutCross 24 = .ok (.iload 4, 2) := dop_21 (dn_w dw25_1 8 rfl)
theorem dX2_longestWithoutCross_26 : decode cX2_longestWithoutCross 26 = .ok (.iload_n 1, 1) := dop_27 (dn_w dw25_1 10 rfl)
theorem dX2_longestWithoutCross_27 : decode cX2_longestWithoutCross 27 = .ok (.invokevirtual 129, 3) := dop_182 (dn_w dw25_1 11 rfl) rfl
theorem dX2_longestWithoutCross_30 : decode cX2_longestWithoutCross 30 = .ok (.ifCond .eq 7, 3) := dop_153 (dn_w dw25_1 14 rfl) rfl
theorem dX2_longestWithoutCross_33 : decode cX2_longestWithoutCross 33 = .ok (.iconst 0, 1) := dop_3 (dn_w dw25_2 1 rfl)
theorem dX2_longestWithoutCross_34 : decode cX2_longestWithoutCross 34 = .ok (.goto 6, 3) := dop_167 (dn_w dw25_2 2 rfl) rfl
theorem dX2_longestWithoutCross_37 : decode cX2_longestWithoutCross 37 = .ok (.iload_n 3, 1) := dop_29 (dn_w dw25_2 5 rfl)
theorem dX2_longestWithoutCross_38 : decode cX2_longestWithoutCross 38 = .ok (.iconst 1, 1) := dop_4 (dn_w dw25_2 6 rfl)
theorem dX2_longestWithoutCross_39 : decode cX2_longestWithoutCross 39 = .ok (.iadd, 1) := dop_96 (dn_w dw25_2 7 rfl)
theorem dX2_longestWithoutCross_40 : decode cX2_longestWithoutCross 40 = .ok (.istore_n 3, 1) := dop_62 (dn_w dw25_2 8 rfl)
theorem dX2_longestWithoutCross_41 : decode cX2_longestWithoutCross 41 = .ok (.iload_n 2, 1) := dop_28 (dn_w dw25_2 9 rfl)
theorem dX2_longestWithoutCross_42 : decode cX2_longestWithoutCross 42 = .ok (.iload_n 3, 1) := dop_29 (dn_w dw25_2 10 rfl)
theorem dX2_longestWithoutCross_43 : decode cX2_longestWithoutCross 43 = .ok (.invokestatic 109, 3) := dop_184 (dn_w dw25_2 11 rfl) rfl
theorem dX2_longestWithoutCross_46 : decode cX2_longestWithoutCross 46 = .ok (.istore_n 2, 1) := dop_61 (dn_w dw25_2 14 rfl)
theorem dX2_longestWithoutCross_47 : decode cX2_longestWithoutCross 47 = .ok (.iinc 4 1, 3) := dop_132 (dn_w dw25_2 15 rfl) rfl
theorem dX2_longestWithoutCross_50 : decode cX2_longestWithoutCross 50 = .ok (.goto (-43), 3) := dop_167 (dn_w dw25_3 2 rfl) rfl
theorem dX2_longestWithoutCross_53 : decode cX2_longestWithoutCross 53 = .ok (.iload_n 2, 1) := dop_28 (dn_w dw25_3 5 rfl)
theorem dX2_longestWithoutCross_54 : decode cX2_longestWithoutCross 54 = .ok (.ireturn, 1) := dop_172 (dn_w dw25_3 6 rfl)
noncomputable def dt26_3 : List Nat := 214 :: 28 :: 172 :: []
noncomputable def dt26_2 : List Nat := 4 :: 29 :: 120 :: 128 :: 61 :: 132 :: 4 :: 1 :: 167 :: 255 :: 229 :: 132 :: 3 :: 1 :: 167 :: 255 :: dt26_3
noncomputable def dt26_1 : List Nat := 9 :: 163 :: 0 :: 26 :: 42 :: 27 :: 29 :: 21 :: 4 :: 182 :: 0 :: 132 :: 153 :: 0 :: 9 :: 28 :: dt26_2
noncomputable def dt26_0 : List Nat := 3 :: 61 :: 3 :: 62 :: 29 :: 16 :: 6 :: 162 :: 0 :: 42 :: 3 :: 54 :: 4 :: 21 :: 4 :: 16 :: dt26_1
theorem dw26_0 : dn cX2_kindsByBook 0 = dt26_0 := by decide +kernel
theorem dw26_1 : dn cX2_kindsByBook 16 = dt26_1 := dn_w dw26_0 16 rfl
theorem dw26_2 : dn cX2_kindsByBook 32 = dt26_2 := dn_w dw26_1 16 rfl
theorem dw26_3 : dn cX2_kindsByBook 48 = dt26_3 := dn_w dw26_2 16 rfl
theorem dX2_kindsByBook_0 : decode cX2_kindsByBook 0 = .ok (.iconst 0, 1) := dop_3 (dn_w dw26_0 0 rfl)
theorem dX2_kindsByBook_1 : decode cX2_kindsByBook 1 = .ok (.istore_n 2, 1) := dop_61 (dn_w dw26_0 1 rfl)
theorem dX2_kindsByBook_2 : decode cX2_kindsByBook 2 = .ok (.iconst 0, 1) := dop_3 (dn_w dw26_0 2 rfl)
theorem dX2_kindsByBook_3 : decode cX2_kindsByBook 3 = .ok (.istore_n 3, 1) := dop_62 (dn_w dw26_0 3 rfl)
theorem dX2_kindsByBook_4 : decode cX2_kindsByBook 4 = .ok (.iload_n 3, 1) := dop_29 (dn_w dw26_0 4 rfl)
theorem dX2_kindsByBook_5 : decode cX2_kindsByBook 5 = .ok (.bipush 6, 2) := dop_16 (dn_w dw26_0 5 rfl) rfl
theorem dX2_kindsByBook_7 : decode cX2_kindsByBook 7 = .ok (.if_icmp .ge 42, 3) := dop_162 (dn_w dw26_0 7 rfl) rfl
theorem dX2_kindsByBook_10 : decode cX2_kindsByBook 10 = .ok (.iconst 0, 1) := dop_3 (dn_w dw26_0 10 rfl)
theorem dX2_kindsByBook_11 : decode cX2_kindsByBook 11 = .ok (.istore 4, 2) := dop_54 (dn_w dw26_0 11 rfl)
theorem dX2_kindsByBook_13 : decode cX2_kindsByBook 13 = .ok (.iload 4, 2) := dop_21 (dn_w dw26_0 13 rfl)
theorem dX2_kindsByBook_15 : decode cX2_kindsByBook 15 = .ok (.bipush 9, 2) := dop_16 (dn_w dw26_0 15 rfl) rfl
theorem dX2_kindsByBook_17 : decode cX2_kindsByBook 17 = .ok (.if_icmp .gt 26, 3) := dop_163 (dn_w dw26_1 1 rfl) rfl
theorem dX2_kindsByBook_20 : decode cX2_kindsByBook 20 = .ok (.aload_n 0, 1) := dop_42 (dn_w dw26_1 4 rfl)
theorem dX2_kindsByBook_21 : decode cX2_kindsByBook 21 = .ok (.iload_n 1, 1) := dop_27 (dn_w dw26_1 5 rfl)
theorem dX2_kindsByBook_22 : decode cX2_kindsByBook 22 = .ok (.iload_n 3, 1) := dop_29 (dn_w dw26_1 6 rfl)
theorem dX2_kindsByBook_23 : decode cX2_kindsByBook 23 = .ok (.iload 4, 2) := dop_21 (dn_w dw26_1 7 rfl)
theorem dX2_kindsByBook_25 : decode cX2_kindsByBook 25 = .ok (.invokevirtual 132, 3) := dop_182 (dn_w dw26_1 9 rfl) rfl
theorem dX2_kindsByBook_28 : decode cX2_kindsByBook 28 = .ok (.ifCond .eq 9, 3) := dop_153 (dn_w dw26_1 12 rfl) rfl
theorem dX2_kindsByBook_31 : decode cX2_kindsByBook 31 = .ok (.iload_n 2, 1) := dop_28 (dn_w dw26_1 15 rfl)
theorem dX2_kindsByBook_32 : decode cX2_kindsByBook 32 = .ok (.iconst 1, 1) := dop_4 (dn_w dw26_2 0 rfl)
theorem dX2_kindsByBook_33 : decode cX2_kindsByBook 33 = .ok (.iload_n 3, 1) := dop_29 (dn_w dw26_2 1 rfl)
theorem dX2_kindsByBook_34 : decode cX2_kindsByBook 34 = .ok (.ishl, 1) := dop_120 (dn_w dw26_2 2 rfl)
theorem dX2_kindsByBook_35 : decode cX2_kindsByBook 35 = .ok (.ior, 1) := dop_128 (dn_w dw26_2 3 rfl)
theorem dX2_kindsByBook_36 : decode cX2_kindsByBook 36 = .ok (.istore_n 2, 1) := dop_61 (dn_w dw26_2 4 rfl)
theorem dX2_kindsByBook_37 : decode cX2_kindsByBook 37 = .ok (.iinc 4 1, 3) := dop_132 (dn_w dw26_2 5 rfl) rfl
theorem dX2_kindsByBook_40 : decode cX2_kindsByBook 40 = .ok (.goto (-27), 3) := dop_167 (dn_w dw26_2 8 rfl) rfl
theorem dX2_kindsByBook_43 : decode cX2_kindsByBook 43 = .ok (.iinc 3 1, 3) := dop_132 (dn_w dw26_2 11 rfl) rfl
theorem dX2_kindsByBook_46 : decode cX2_kindsByBook 46 = .ok (.goto (-42), 3) := dop_167 (dn_w dw26_2 14 rfl) rfl
theorem dX2_kindsByBook_49 : decode cX2_kindsByBook 49 = .ok (.iload_n 2, 1) := dop_28 (dn_w dw26_3 1 rfl)
theorem dX2_kindsByBook_50 : decode cX2_kindsByBook 50 = .ok (.ireturn, 1) := dop_172 (dn_w dw26_3 2 rfl)
noncomputable def dt27_11 : List Nat := 5 :: 132 :: 6 :: 1 :: 167 :: 255 :: 157 :: 4 :: 172 :: []
noncomputable def dt27_10 : List Nat := 3 :: 172 :: 21 :: 7 :: 153 :: 0 :: 7 :: 3 :: 167 :: 0 :: 7 :: 21 :: 5 :: 4 :: 96 :: 54 :: dt27_11
noncomputable def dt27_9 : List Nat := 182 :: 0 :: 95 :: 160 :: 0 :: 15 :: 21 :: 7 :: 154 :: 0 :: 8 :: 21 :: 4 :: 154 :: 0 :: 5 :: dt27_10
noncomputable def dt27_8 : List Nat := 90 :: 42 :: 180 :: 0 :: 58 :: 21 :: 5 :: 181 :: 0 :: 85 :: 21 :: 7 :: 42 :: 180 :: 0 :: 58 :: dt27_9
noncomputable def dt27_7 : List Nat := 181 :: 0 :: 87 :: 42 :: 180 :: 0 :: 58 :: 42 :: 180 :: 0 :: 37 :: 21 :: 6 :: 46 :: 181 :: 0 :: dt27_8
noncomputable def dt27_6 : List Nat := 89 :: 42 :: 21 :: 6 :: 27 :: 182 :: 0 :: 129 :: 54 :: 7 :: 42 :: 180 :: 0 :: 58 :: 21 :: 6 :: dt27_7
noncomputable def dt27_5 : List Nat := 6 :: 21 :: 6 :: 42 :: 180 :: 0 :: 49 :: 162 :: 0 :: 96 :: 21 :: 6 :: 16 :: 40 :: 162 :: 0 :: dt27_6
noncomputable def dt27_4 : List Nat := 0 :: 58 :: 42 :: 180 :: 0 :: 46 :: 4 :: 46 :: 181 :: 0 :: 92 :: 3 :: 54 :: 5 :: 3 :: 54 :: dt27_5
noncomputable def dt27_3 : List Nat := 0 :: 58 :: 3 :: 181 :: 0 :: 81 :: 42 :: 180 :: 0 :: 58 :: 3 :: 181 :: 0 :: 83 :: 42 :: 180 :: dt27_4
noncomputable def dt27_2 : List Nat := 77 :: 42 :: 180 :: 0 :: 58 :: 42 :: 180 :: 0 :: 21 :: 27 :: 46 :: 181 :: 0 :: 79 :: 42 :: 180 :: dt27_3
noncomputable def dt27_1 : List Nat := 4 :: 42 :: 180 :: 0 :: 58 :: 28 :: 181 :: 0 :: 75 :: 42 :: 180 :: 0 :: 58 :: 29 :: 181 :: 0 :: dt27_2
noncomputable def dt27_0 : List Nat := 28 :: 5 :: 159 :: 0 :: 8 :: 28 :: 8 :: 160 :: 0 :: 7 :: 4 :: 167 :: 0 :: 4 :: 3 :: 54 :: dt27_1
theorem dw27_0 : dn cX2_bookFits 0 = dt27_0 := by decide +kernel
theorem dw27_1 : dn cX2_bookFits 16 = dt27_1 := dn_w dw27_0 16 rfl
theorem dw27_2 : dn cX2_bookFits 32 = dt27_2 := dn_w dw27_1 16 rfl
theorem dw27_3 : dn cX2_bookFits 48 = dt27_3 := dn_w dw27_2 16 rfl
theorem dw27_4 : dn cX2_bookFits 64 = dt27_4 := dn_w dw27_3 16 rfl
theorem dw27_5 : dn cX2_bookFits 80 = dt27_5 := dn_w dw27_4 16 rfl
theorem dw27_6 : dn cX2_bookFits 96 = dt27_6 := dn_w dw27_5 16 rfl
theorem dw27_7 : dn cX2_bookFits 112 = dt27_7 := dn_w dw27_6 16 rfl
theorem dw27_8 : dn cX2_bookFits 128 = dt27_8 := dn_w dw27_7 16 rfl
theorem dw27_9 : dn cX2_bookFits 144 = dt27_9 := dn_w dw27_8 16 rfl
theorem dw27_10 : dn cX2_bookFits 160 = dt27_10 := dn_w dw27_9 16 rfl
theorem dw27_11 : dn cX2_bookFits 176 = dt27_11 := dn_w dw27_10 16 rfl
theorem dX2_bookFits_0 : decode cX2_bookFits 0 = .ok (.iload_n 2, 1) := dop_28 (dn_w dw27_0 0 rfl)
theorem dX2_bookFits_1 : decode cX2_bookFits 1 = .ok (.iconst 2, 1) := dop_5 (dn_w dw27_0 1 rfl)
theorem dX2_bookFits_2 : decode cX2_bookFits 2 = .ok (.if_icmp .eq 8, 3) := dop_159 (dn_w dw27_0 2 rfl) rfl
theorem dX2_bookFits_5 : decode cX2_bookFits 5 = .ok (.iload_n 2, 1) := dop_28 (dn_w dw27_0 5 rfl)
theorem dX2_bookFits_6 : decode cX2_bookFits 6 = .ok (.iconst 5, 1) := dop_8 (dn_w dw27_0 6 rfl)
theorem dX2_bookFits_7 : decode cX2_bookFits 7 = .ok (.if_icmp .ne 7, 3) := dop_160 (dn_w dw27_0 7 rfl) rfl
theorem dX2_bookFits_10 : decode cX2_bookFits 10 = .ok (.iconst 1, 1) := dop_4 (dn_w dw27_0 10 rfl)
theorem dX2_bookFits_11 : decode cX2_bookFits 11 = .ok (.goto 4, 3) := dop_167 (dn_w dw27_0 11 rfl) rfl
theorem dX2_bookFits_14 : decode cX2_bookFits 14 = .ok (.iconst 0, 1) := dop_3 (dn_w dw27_0 14 rfl)
theorem dX2_bookFits_15 : decode cX2_bookFits 15 = .ok (.istore 4, 2) := dop_54 (dn_w dw27_0 15 rfl)
theorem dX2_bookFits_17 : decode cX2_bookFits 17 = .ok (.aload_n 0, 1) := dop_42 (dn_w dw27_1 1 rfl)
theorem dX2_bookFits_18 : decode cX2_bookFits 18 = .ok (.getfield 58, 3) := dop_180 (dn_w dw27_1 2 rfl) rfl
theorem dX2_bookFits_21 : decode cX2_bookFits 21 = .ok (.iload_n 2, 1) := dop_28 (dn_w dw27_1 5 rfl)
theorem dX2_bookFits_22 : decode cX2_bookFits 22 = .ok (.putfield 75, 3) := dop_181 (dn_w dw27_1 6 rfl) rfl
theorem dX2_bookFits_25 : decode cX2_bookFits 25 = .ok (.aload_n 0, 1) := dop_42 (dn_w dw27_1 9 rfl)
theorem dX2_bookFits_26 : decode cX2_bookFits 26 = .ok (.getfield 58, 3) := dop_180 (dn_w dw27_1 10 rfl) rfl
theorem dX2_bookFits_29 : decode cX2_bookFits 29 = .ok (.iload_n 3, 1) := dop_29 (dn_w dw27_1 13 rfl)
theorem dX2_bookFits_30 : decode cX2_bookFits 30 = .ok (.putfield 77, 3) := dop_181 (dn_w dw27_1 14 rfl) rfl
theorem dX2_bookFits_33 : decode cX2_bookFits 33 = .ok (.aload_n 0, 1) := dop_42 (dn_w dw27_2 1 rfl)
theorem dX2_bookFits_34 : decode cX2_bookFits 34 = .ok (.getfield 58, 3) := dop_180 (dn_w dw27_2 2 rfl) rfl
theorem dX2_bookFits_37 : decode cX2_bookFits 37 = .ok (.aload_n 0, 1) := dop_42 (dn_w dw27_2 5 rfl)
theorem dX2_bookFits_38 : decode cX2_bookFits 38 = .ok (.getfield 21, 3) := dop_180 (dn_w dw27_2 6 rfl) rfl
theorem dX2_bookFits_41 : decode cX2_bookFits 41 = .ok (.iload_n 1, 1) := dop_27 (dn_w dw27_2 9 rfl)
theorem dX2_bookFits_42 : decode cX2_bookFits 42 = .ok (.iaload, 1) := dop_46 (dn_w dw27_2 10 rfl)
theorem dX2_bookFits_43 : decode cX2_bookFits 43 = .ok (.putfield 79, 3) := dop_181 (dn_w dw27_2 11 rfl) rfl
theorem dX2_bookFits_46 : decode cX2_bookFits 46 = .ok (.aload_n 0, 1) := dop_42 (dn_w dw27_2 14 rfl)
theorem dX2_bookFits_47 : decode cX2_bookFits 47 = .ok (.getfield 58, 3) := dop_180 (dn_w dw27_2 15 rfl) rfl
theorem dX2_bookFits_50 : decode cX2_bookFits 50 = .ok (.iconst 0, 1) := dop_3 (dn_w dw27_3 2 rfl)
theorem dX2_bookFits_51 : decode cX2_bookFits 51 = .ok (.putfield 81, 3) := dop_181 (dn_w dw27_3 3 rfl) rfl
theorem dX2_bookFits_54 : decode cX2_bookFits 54 = .ok (.aload_n 0, 1) := dop_42 (dn_w dw27_3 6 rfl)
theorem dX2_bookFits_55 : decode cX2_bookFits 55 = .ok (.getfield 58, 3) := dop_180 (dn_w dw27_3 7 rfl) rfl
theorem dX2_bookFits_58 : decode cX2_bookFits 58 = .ok (.iconst 0, 1) := dop_3 (dn_w dw27_3 10 rfl)
theorem dX2_bookFits_59 : decode cX2_bookFits 59 = .ok (.putfield 83, 3) := dop_181 (dn_w dw27_3 11 rfl) rfl
theorem dX2_bookFits_62 : decode cX2_bookFits 62 = .ok (.aload_n 0, 1) := dop_42 (dn_w dw27_3 14 rfl)
theorem dX2_bookFits_63 : decode cX2_bookFits 63 = .ok (.getfield 58, 3) := dop_180 (dn_w dw27_3 15 rfl) rfl
theorem dX2_bookFits_66 : decode cX2_bookFits 66 = .ok (.aload_n 0, 1) := dop_42 (dn_w dw27_4 2 rfl)
theorem dX2_bookFits_67 : decode cX2_bookFits 67 = .ok (.getfield 46, 3) := dop_180 (dn_w dw27_4 3 rfl) rfl
theorem dX2_bookFits_70 : decode cX2_bookFits 70 = .ok (.iconst 1, 1) := dop_4 (dn_w dw27_4 6 rfl)
theorem dX2_bookFits_71 : decode cX2_bookFits 71 = .ok (.iaload, 1) := dop_46 (dn_w dw27_4 7 rfl)
theorem dX2_bookFits_72 : decode cX2_bookFits 72 = .ok (.putfield 92, 3) := dop_181 (dn_w dw27_4 8 rfl) rfl
theorem dX2_bookFits_75 : decode cX2_bookFits 75 = .ok (.iconst 0, 1) := dop_3 (dn_w dw27_4 11 rfl)
theorem dX2_bookFits_76 : decode cX2_bookFits 76 = .ok (.istore 5, 2) := dop_54 (dn_w dw27_4 12 rfl)
theorem dX2_bookFits_78 : decode cX2_bookFits 78 = .ok (.iconst 0, 1) := dop_3 (dn_w dw27_4 14 rfl)
theorem dX2_bookFits_79 : decode cX2_bookFits 79 = .ok (.istore 6, 2) := dop_54 (dn_w dw27_4 15 rfl)
theorem dX2_bookFits_81 : decode cX2_bookFits 81 = .ok (.iload 6, 2) := dop_21 (dn_w dw27_5 1 rfl)
theorem dX2_bookFits_83 : decode cX2_bookFits 83 = .ok (.aload_n 0, 1) := dop_42 (dn_w dw27_5 3 rfl)
theorem dX2_bookFits_84 : decode cX2_bookFits 84 = .ok (.getfield 49, 3) := dop_180 (dn_w dw27_5 4 rfl) rfl
theorem dX2_bookFits_87 : decode cX2_bookFits 87 = .ok (.if_icmp .ge 96, 3) := dop_162 (dn_w dw27_5 7 rfl) rfl
theorem dX2_bookFits_90 : decode cX2_bookFits 90 = .ok (.iload 6, 2) := dop_21 (dn_w dw27_5 10 rfl)
theorem dX2_bookFits_92 : decode cX2_bookFits 92 = .ok (.bipush 40, 2) := dop_16 (dn_w dw27_5 12 rfl) rfl
theorem dX2_bookFits_94 : decode cX2_bookFits 94 = .ok (.if_icmp .ge 89, 3) := dop_162 (dn_w dw27_5 14 rfl) rfl
theorem dX2_bookFits_97 : decode cX2_bookFits 97 = .ok (.aload_n 0, 1) := dop_42 (dn_w dw27_6 1 rfl)
theorem dX2_bookFits_98 : decode cX2_bookFits 98 = .ok (.iload 6, 2) := dop_21 (dn_w dw27_6 2 rfl)
theorem dX2_bookFits_100 : decode cX2_bookFits 100 = .ok (.iload_n 1, 1) := dop_27 (dn_w dw27_6 4 rfl)
theorem dX2_bookFits_101 : decode cX2_bookFits 101 = .ok (.invokevirtual 129, 3) := dop_182 (dn_w dw27_6 5 rfl) rfl
theorem dX2_bookFits_104 : decode cX2_bookFits 104 = .ok (.istore 7, 2) := dop_54 (dn_w dw27_6 8 rfl)
theorem dX2_bookFits_106 : decode cX2_bookFits 106 = .ok (.aload_n 0, 1) := dop_42 (dn_w dw27_6 10 rfl)
theorem dX2_bookFits_107 : decode cX2_bookFits 107 = .ok (.getfield 58, 3) := dop_180 (dn_w dw27_6 11 rfl) rfl
theorem dX2_bookFits_110 : decode cX2_bookFits 110 = .ok (.iload 6, 2) := dop_21 (dn_w dw27_6 14 rfl)
theorem dX2_bookFits_112 : decode cX2_bookFits 112 = .ok (.putfield 87, 3) := dop_181 (dn_w dw27_7 0 rfl) rfl
theorem dX2_bookFits_115 : decode cX2_bookFits 115 = .ok (.aload_n 0, 1) := dop_42 (dn_w dw27_7 3 rfl)
theorem dX2_bookFits_116 : decode cX2_bookFits 116 = .ok (.getfield 58, 3) := dop_180 (dn_w dw27_7 4 rfl) rfl
theorem dX2_bookFits_119 : decode cX2_bookFits 119 = .ok (.aload_n 0, 1) := dop_42 (dn_w dw27_7 7 rfl)
theorem dX2_bookFits_120 : decode cX2_bookFits 120 = .ok (.getfield 37, 3) := dop_180 (dn_w dw27_7 8 rfl) rfl
theorem dX2_bookFits_123 : decode cX2_bookFits 123 = .ok (.iload 6, 2) := dop_21 (dn_w dw27_7 11 rfl)
theorem dX2_bookFits_125 : decode cX2_bookFits 125 = .ok (.iaload, 1) := dop_46 (dn_w dw27_7 13 rfl)
theorem dX2_bookFits_126 : decode cX2_bookFits 126 = .ok (.putfield 90, 3) := dop_181 (dn_w dw27_7 14 rfl) rfl
theorem dX2_bookFits_129 : decode cX2_bookFits 129 = .ok (.aload_n 0, 1) := dop_42 (dn_w dw27_8 1 rfl)
theorem dX2_bookFits_130 : decode cX2_bookFits 130 = .ok (.getfield 58, 3) := dop_180 (dn_w dw27_8 2 rfl) rfl
theorem dX2_bookFits_133 : decode cX2_bookFits 133 = .ok (.iload 5, 2) := dop_21 (dn_w dw27_8 5 rfl)
theorem dX2_bookFits_135 : decode cX2_bookFits 135 = .ok (.putfield 85, 3) := dop_181 (dn_w dw27_8 7 rfl) rfl
theorem dX2_bookFits_138 : decode cX2_bookFits 138 = .ok (.iload 7, 2) := dop_21 (dn_w dw27_8 10 rfl)
theorem dX2_bookFits_140 : decode cX2_bookFits 140 = .ok (.aload_n 0, 1) := dop_42 (dn_w dw27_8 12 rfl)
theorem dX2_bookFits_141 : decode cX2_bookFits 141 = .ok (.getfield 58, 3) := dop_180 (dn_w dw27_8 13 rfl) rfl
theorem dX2_bookFits_144 : decode cX2_bookFits 144 = .ok (.invokevirtual 95, 3) := dop_182 (dn_w dw27_9 0 rfl) rfl
theorem dX2_bookFits_147 : decode cX2_bookFits 147 = .ok (.if_icmp .ne 15, 3) := dop_160 (dn_w dw27_9 3 rfl) rfl
theorem dX2_bookFits_150 : decode cX2_bookFits 150 = .ok (.iload 7, 2) := dop_21 (dn_w dw27_9 6 rfl)
theorem dX2_bookFits_152 : decode cX2_bookFits 152 = .ok (.ifCond .ne 8, 3) := dop_154 (dn_w dw27_9 8 rfl) rfl
theorem dX2_bookFits_155 : decode cX2_bookFits 155 = .ok (.iload 4, 2) := dop_21 (dn_w dw27_9 11 rfl)
theorem dX2_bookFits_157 : decode cX2_bookFits 157 = .ok (.ifCond .ne 5, 3) := dop_154 (dn_w dw27_9 13 rfl) rfl
theorem dX2_bookFits_160 : decode cX2_bookFits 160 = .ok (.iconst 0, 1) := dop_3 (dn_w dw27_10 0 rfl)
theorem dX2_bookFits_161 : decode cX2_bookFits 161 = .ok (.ireturn, 1) := dop_172 (dn_w dw27_10 1 rfl)
theorem dX2_bookFits_162 : decode cX2_bookFits 162 = .ok (.iload 7, 2) := dop_21 (dn_w dw27_10 2 rfl)
theorem dX2_bookFits_164 : decode cX2_bookFits 164 = .ok (.ifCond .eq 7, 3) := dop_153 (dn_w dw27_10 4 rfl) rfl
theorem dX2_bookFits_167 : decode cX2_bookFits 167 = .ok (.iconst 0, 1) := dop_3 (dn_w dw27_10 7 rfl)
theorem dX2_bookFits_168 : decode cX2_bookFits 168 = .ok (.goto 7, 3) := dop_167 (dn_w dw27_10 8 rfl) rfl
theorem dX2_bookFits_171 : decode cX2_bookFits 171 = .ok (.iload 5, 2) := dop_21 (dn_w dw27_10 11 rfl)
theorem dX2_bookFits_173 : decode cX2_bookFits 173 = .ok (.iconst 1, 1) := dop_4 (dn_w dw27_10 13 rfl)
theorem dX2_bookFits_174 : decode cX2_bookFits 174 = .ok (.iadd, 1) := dop_96 (dn_w dw27_10 14 rfl)
theorem dX2_bookFits_175 : decode cX2_bookFits 175 = .ok (.istore 5, 2) := dop_54 (dn_w dw27_10 15 rfl)
theorem dX2_bookFits_177 : decode cX2_bookFits 177 = .ok (.iinc 6 1, 3) := dop_132 (dn_w dw27_11 1 rfl) rfl
theorem dX2_bookFits_180 : decode cX2_bookFits 180 = .ok (.goto (-99), 3) := dop_167 (dn_w dw27_11 4 rfl) rfl
theorem dX2_bookFits_183 : decode cX2_bookFits 183 = .ok (.iconst 1, 1) := dop_4 (dn_w dw27_11 7 rfl)
theorem dX2_bookFits_184 : decode cX2_bookFits 184 = .ok (.ireturn, 1) := dop_172 (dn_w dw27_11 8 rfl)
noncomputable def dt28_4 : List Nat := 172 :: 132 :: 3 :: 255 :: 132 :: 4 :: 1 :: 167 :: 255 :: 225 :: 16 :: 253 :: 172 :: []
noncomputable def dt28_3 : List Nat := 28 :: 27 :: 21 :: 4 :: 122 :: 4 :: 126 :: 153 :: 0 :: 13 :: 29 :: 154 :: 0 :: 6 :: 21 :: 4 :: dt28_4
noncomputable def dt28_2 : List Nat := 16 :: 124 :: 28 :: 112 :: 62 :: 3 :: 54 :: 4 :: 21 :: 4 :: 42 :: 180 :: 0 :: 33 :: 162 :: 0 :: dt28_3
noncomputable def dt28_1 : List Nat := 52 :: 18 :: 136 :: 104 :: 17 :: 48 :: 57 :: 96 :: 181 :: 0 :: 52 :: 42 :: 180 :: 0 :: 52 :: 16 :: dt28_2
noncomputable def dt28_0 : List Nat := 27 :: 184 :: 0 :: 123 :: 61 :: 28 :: 157 :: 0 :: 6 :: 16 :: 253 :: 172 :: 42 :: 42 :: 180 :: 0 :: dt28_1
theorem dw28_0 : dn cX2_drawFrom 0 = dt28_0 := by decide +kernel
theorem dw28_1 : dn cX2_drawFrom 16 = dt28_1 := dn_w dw28_0 16 rfl
theorem dw28_2 : dn cX2_drawFrom 32 = dt28_2 := dn_w dw28_1 16 rfl
theorem dw28_3 : dn cX2_drawFrom 48 = dt28_3 := dn_w dw28_2 16 rfl
theorem dw28_4 : dn cX2_drawFrom 64 = dt28_4 := dn_w dw28_3 16 rfl
theorem dX2_drawFrom_0 : decode cX2_drawFrom 0 = .ok (.iload_n 1, 1) := dop_27 (dn_w dw28_0 0 rfl)
theorem dX2_drawFrom_1 : decode cX2_drawFrom 1 = .ok (.invokestatic 123, 3) := dop_184 (dn_w dw28_0 1 rfl) rfl
theorem dX2_drawFrom_4 : decode cX2_drawFrom 4 = .ok (.istore_n 2, 1) := dop_61 (dn_w dw28_0 4 rfl)
theorem dX2_drawFrom_5 : decode cX2_drawFrom 5 = .ok (.iload_n 2, 1) := dop_28 (dn_w dw28_0 5 rfl)
theorem dX2_drawFrom_6 : decode cX2_drawFrom 6 = .ok (.ifCond .gt 6, 3) := dop_157 (dn_w dw28_0 6 rfl) rfl
theorem dX2_drawFrom_9 : decode cX2_drawFrom 9 = .ok (.bipush (-3), 2) := dop_16 (dn_w dw28_0 9 rfl) rfl
theorem dX2_drawFrom_11 : decode cX2_drawFrom 11 = .ok (.ireturn, 1) := dop_172 (dn_w dw28_0 11 rfl)
theorem dX2_drawFrom_12 : decode cX2_drawFrom 12 = .ok (.aload_n 0, 1) := dop_42 (dn_w dw28_0 12 rfl)
theorem dX2_drawFrom_13 : decode cX2_drawFrom 13 = .ok (.aload_n 0, 1) := dop_42 (dn_w dw28_0 13 rfl)
theorem dX2_drawFrom_14 : decode cX2_drawFrom 14 = .ok (.getfield 52, 3) := dop_180 (dn_w dw28_0 14 rfl) rfl
theorem dX2_drawFrom_17 : decode cX2_drawFrom 17 = .ok (.ldc 136, 2) := dop_18 (dn_w dw28_1 1 rfl)
theorem dX2_drawFrom_19 : decode cX2_drawFrom 19 = .ok (.imul, 1) := dop_104 (dn_w dw28_1 3 rfl)
theorem dX2_drawFrom_20 : decode cX2_drawFrom 20 = .ok (.sipush 12345, 3) := dop_17 (dn_w dw28_1 4 rfl) rfl
theorem dX2_drawFrom_23 : decode cX2_drawFrom 23 = .ok (.iadd, 1) := dop_96 (dn_w dw28_1 7 rfl)
theorem dX2_drawFrom_24 : decode cX2_drawFrom 24 = .ok (.putfield 52, 3) := dop_181 (dn_w dw28_1 8 rfl) rfl
theorem dX2_drawFrom_27 : decode cX2_drawFrom 27 = .ok (.aload_n 0, 1) := dop_42 (dn_w dw28_1 11 rfl)
theorem dX2_drawFrom_28 : decode cX2_drawFrom 28 = .ok (.getfield 52, 3) := dop_180 (dn_w dw28_1 12 rfl) rfl
theorem dX2_drawFrom_31 : decode cX2_drawFrom 31 = .ok (.bipush 16, 2) := dop_16 (dn_w dw28_1 15 rfl) rfl
theorem dX2_drawFrom_33 : decode cX2_drawFrom 33 = .ok (.iushr, 1) := dop_124 (dn_w dw28_2 1 rfl)
theorem dX2_drawFrom_34 : decode cX2_drawFrom 34 = .ok (.iload_n 2, 1) := dop_28 (dn_w dw28_2 2 rfl)
theorem dX2_drawFrom_35 : decode cX2_drawFrom 35 = .ok (.irem, 1) := dop_112 (dn_w dw28_2 3 rfl)
theorem dX2_drawFrom_36 : decode cX2_drawFrom 36 = .ok (.istore_n 3, 1) := dop_62 (dn_w dw28_2 4 rfl)
theorem dX2_drawFrom_37 : decode cX2_drawFrom 37 = .ok (.iconst 0, 1) := dop_3 (dn_w dw28_2 5 rfl)
theorem dX2_drawFrom_38 : decode cX2_drawFrom 38 = .ok (.istore 4, 2) := dop_54 (dn_w dw28_2 6 rfl)
theorem dX2_drawFrom_40 : decode cX2_drawFrom 40 = .ok (.iload 4, 2) := dop_21 (dn_w dw28_2 8 rfl)
theorem dX2_drawFrom_42 : decode cX2_drawFrom 42 = .ok (.aload_n 0, 1) := dop_42 (dn_w dw28_2 10 rfl)
theorem dX2_drawFrom_43 : decode cX2_drawFrom 43 = .ok (.getfield 33, 3) := dop_180 (dn_w dw28_2 11 rfl) rfl
theorem dX2_drawFrom_46 : decode cX2_drawFrom 46 = .ok (.if_icmp .ge 28, 3) := dop_162 (dn_w dw28_2 14 rfl) rfl
theorem dX2_drawFrom_49 : decode cX2_drawFrom 49 = .ok (.iload_n 1, 1) := dop_27 (dn_w dw28_3 1 rfl)
theorem dX2_drawFrom_50 : decode cX2_drawFrom 50 = .ok (.iload 4, 2) := dop_21 (dn_w dw28_3 2 rfl)
theorem dX2_drawFrom_52 : decode cX2_drawFrom 52 = .ok (.ishr, 1) := dop_122 (dn_w dw28_3 4 rfl)
theorem dX2_drawFrom_53 : decode cX2_drawFrom 53 = .ok (.iconst 1, 1) := dop_4 (dn_w dw28_3 5 rfl)
theorem dX2_drawFrom_54 : decode cX2_drawFrom 54 = .ok (.iand, 1) := dop_126 (dn_w dw28_3 6 rfl)
theorem dX2_drawFrom_55 : decode cX2_drawFrom 55 = .ok (.ifCond .eq 13, 3) := dop_153 (dn_w dw28_3 7 rfl) rfl
theorem dX2_drawFrom_58 : decode cX2_drawFrom 58 = .ok (.iload_n 3, 1) := dop_29 (dn_w dw28_3 10 rfl)
theorem dX2_drawFrom_59 : decode cX2_drawFrom 59 = .ok (.ifCond .ne 6, 3) := dop_154 (dn_w dw28_3 11 rfl) rfl
theorem dX2_drawFrom_62 : decode cX2_drawFrom 62 = .ok (.iload 4, 2) := dop_21 (dn_w dw28_3 14 rfl)
theorem dX2_drawFrom_64 : decode cX2_drawFrom 64 = .ok (.ireturn, 1) := dop_172 (dn_w dw28_4 0 rfl)
theorem dX2_drawFrom_65 : decode cX2_drawFrom 65 = .ok (.iinc 3 (-1), 3) := dop_132 (dn_w dw28_4 1 rfl) rfl
theorem dX2_drawFrom_68 : decode cX2_drawFrom 68 = .ok (.iinc 4 1, 3) := dop_132 (dn_w dw28_4 4 rfl) rfl
theorem dX2_drawFrom_71 : decode cX2_drawFrom 71 = .ok (.goto (-31), 3) := dop_167 (dn_w dw28_4 7 rfl) rfl
theorem dX2_drawFrom_74 : decode cX2_drawFrom 74 = .ok (.bipush (-3), 2) := dop_16 (dn_w dw28_4 10 rfl) rfl
theorem dX2_drawFrom_76 : decode cX2_drawFrom 76 = .ok (.ireturn, 1) := dop_172 (dn_w dw28_4 12 rfl)
noncomputable def dt29_1 : List Nat := 40 :: 188 :: 11 :: 181 :: 0 :: 18 :: 177 :: []
noncomputable def dt29_0 : List Nat := 42 :: 183 :: 0 :: 3 :: 42 :: 2 :: 181 :: 0 :: 9 :: 42 :: 3 :: 181 :: 0 :: 15 :: 42 :: 16 :: dt29_1
theorem dw29_0 : dn cX3_init 0 = dt29_0 := by decide +kernel
theorem dw29_1 : dn cX3_init 16 = dt29_1 := dn_w dw29_0 16 rfl
theorem dX3_init_0 : decode cX3_init 0 = .ok (.aload_n 0, 1) := dop_42 (dn_w dw29_0 0 rfl)
theorem dX3_init_1 : decode cX3_init 1 = .ok (.invokespecial 3, 3) := dop_183 (dn_w dw29_0 1 rfl) rfl
theorem dX3_init_4 : decode cX3_init 4 = .ok (.aload_n 0, 1) := dop_42 (dn_w dw29_0 4 rfl)
theorem dX3_init_5 : decode cX3_init 5 = .ok (.iconst (-1), 1) := dop_2 (dn_w dw29_0 5 rfl)
theorem dX3_init_6 : decode cX3_init 6 = .ok (.putfield 9, 3) := dop_181 (dn_w dw29_0 6 rfl) rfl
theorem dX3_init_9 : decode cX3_init 9 = .ok (.aload_n 0, 1) := dop_42 (dn_w dw29_0 9 rfl)
theorem dX3_init_10 : decode cX3_init 10 = .ok (.iconst 0, 1) := dop_3 (dn_w dw29_0 10 rfl)
theorem dX3_init_11 : decode cX3_init 11 = .ok (.putfield 15, 3) := dop_181 (dn_w dw29_0 11 rfl) rfl
theorem dX3_init_14 : decode cX3_init 14 = .ok (.aload_n 0, 1) := dop_42 (dn_w dw29_0 14 rfl)
theorem dX3_init_15 : decode cX3_init 15 = .ok (.bipush 40, 2) := dop_16 (dn_w dw29_0 15 rfl) rfl
theorem dX3_init_17 : decode cX3_init 17 = .ok (.newarray .long, 2) := by decide +kernel
theorem dX3_init_19 : decode cX3_init 19 = .ok (.putfield 18, 3) := dop_181 (dn_w dw29_1 3 rfl) rfl
theorem dX3_init_22 : decode cX3_init 22 = .ok (.return_, 1) := dop_177 (dn_w dw29_1 6 rfl)
noncomputable def dt30_1 : List Nat := 0 :: 16 :: 42 :: 180 :: 0 :: 18 :: 29 :: 9 :: 80 :: 132 :: 3 :: 1 :: 167 :: 255 :: 240 :: 177 :: []
noncomputable def dt30_0 : List Nat := 42 :: 27 :: 181 :: 0 :: 9 :: 42 :: 28 :: 181 :: 0 :: 15 :: 3 :: 62 :: 29 :: 16 :: 40 :: 162 :: dt30_1
theorem dw30_0 : dn cX3_becomeRow 0 = dt30_0 := by decide +kernel
theorem dw30_1 : dn cX3_becomeRow 16 = dt30_1 := dn_w dw30_0 16 rfl
theorem dX3_becomeRow_0 : decode cX3_becomeRow 0 = .ok (.aload_n 0, 1) := dop_42 (dn_w dw30_0 0 rfl)
theorem dX3_becomeRow_1 : decode cX3_becomeRow 1 = .ok (.iload_n 1, 1) := dop_27 (dn_w dw30_0 1 rfl)
theorem dX3_becomeRow_2 : decode cX3_becomeRow 2 = .ok (.putfield 9, 3) := dop_181 (dn_w dw30_0 2 rfl) rfl
theorem dX3_becomeRow_5 : decode cX3_becomeRow 5 = .ok (.aload_n 0, 1) := dop_42 (dn_w dw30_0 5 rfl)
theorem dX3_becomeRow_6 : decode cX3_becomeRow 6 = .ok (.iload_n 2, 1) := dop_28 (dn_w dw30_0 6 rfl)
theorem dX3_becomeRow_7 : decode cX3_becomeRow 7 = .ok (.putfield 15, 3) := dop_181 (dn_w dw30_0 7 rfl) rfl
theorem dX3_becomeRow_10 : decode cX3_becomeRow 10 = .ok (.iconst 0, 1) := dop_3 (dn_w dw30_0 10 rfl)
theorem dX3_becomeRow_11 : decode cX3_becomeRow 11 = .ok (.istore_n 3, 1) := dop_62 (dn_w dw30_0 11 rfl)
theorem dX3_becomeRow_12 : decode cX3_becomeRow 12 = .ok (.iload_n 3, 1) := dop_29 (dn_w dw30_0 12 rfl)
theorem dX3_becomeRow_13 : decode cX3_becomeRow 13 = .ok (.bipush 40, 2) := dop_16 (dn_w dw30_0 13 rfl) rfl
theorem dX3_becomeRow_15 : decode cX3_becomeRow 15 = .ok (.if_icmp .ge 16, 3) := dop_162 (dn_w dw30_0 15 rfl) rfl
theorem dX3_becomeRow_18 : decode cX3_becomeRow 18 = .ok (.aload_n 0, 1) := dop_42 (dn_w dw30_1 2 rfl)
theorem dX3_becomeRow_19 : decode cX3_becomeRow 19 = .ok (.getfield 18, 3) := dop_180 (dn_w dw30_1 3 rfl) rfl
theorem dX3_becomeRow_22 : decode cX3_becomeRow 22 = .ok (.iload_n 3, 1) := dop_29 (dn_w dw30_1 6 rfl)
theorem dX3_becomeRow_23 : decode cX3_becomeRow 23 = .ok (.lconst 0, 1) := dop_9 (dn_w dw30_1 7 rfl)
theorem dX3_becomeRow_24 : decode cX3_becomeRow 24 = .ok (.lastore, 1) := dop_80 (dn_w dw30_1 8 rfl)
theorem dX3_becomeRow_25 : decode cX3_becomeRow 25 = .ok (.iinc 3 1, 3) := dop_132 (dn_w dw30_1 9 rfl) rfl
theorem dX3_becomeRow_28 : decode cX3_becomeRow 28 = .ok (.goto (-16), 3) := dop_167 (dn_w dw30_1 12 rfl) rfl
theorem dX3_becomeRow_31 : decode cX3_becomeRow 31 = .ok (.return_, 1) := dop_177 (dn_w dw30_1 15 rfl)
noncomputable def dt31_1 : List Nat := 3 :: 172 :: []
noncomputable def dt31_0 : List Nat := 27 :: 155 :: 0 :: 15 :: 27 :: 42 :: 180 :: 0 :: 15 :: 162 :: 0 :: 7 :: 4 :: 167 :: 0 :: 4 :: dt31_1
theorem dw31_0 : dn cX3_hasItem 0 = dt31_0 := by decide +kernel
theorem dw31_1 : dn cX3_hasItem 16 = dt31_1 := dn_w dw31_0 16 rfl
theorem dX3_hasItem_0 : decode cX3_hasItem 0 = .ok (.iload_n 1, 1) := dop_27 (dn_w dw31_0 0 rfl)
theorem dX3_hasItem_1 : decode cX3_hasItem 1 = .ok (.ifCond .lt 15, 3) := dop_155 (dn_w dw31_0 1 rfl) rfl
theorem dX3_hasItem_4 : decode cX3_hasItem 4 = .ok (.iload_n 1, 1) := dop_27 (dn_w dw31_0 4 rfl)
theorem dX3_hasItem_5 : decode cX3_hasItem 5 = .ok (.aload_n 0, 1) := dop_42 (dn_w dw31_0 5 rfl)
theorem dX3_hasItem_6 : decode cX3_hasItem 6 = .ok (.getfield 15, 3) := dop_180 (dn_w dw31_0 6 rfl) rfl
theorem dX3_hasItem_9 : decode cX3_hasItem 9 = .ok (.if_icmp .ge 7, 3) := dop_162 (dn_w dw31_0 9 rfl) rfl
theorem dX3_hasItem_12 : decode cX3_hasItem 12 = .ok (.iconst 1, 1) := dop_4 (dn_w dw31_0 12 rfl)
theorem dX3_hasItem_13 : decode cX3_hasItem 13 = .ok (.goto 4, 3) := dop_167 (dn_w dw31_0 13 rfl) rfl
theorem dX3_hasItem_16 : decode cX3_hasItem 16 = .ok (.iconst 0, 1) := dop_3 (dn_w dw31_1 0 rfl)
theorem dX3_hasItem_17 : decode cX3_hasItem 17 = .ok (.ireturn, 1) := dop_172 (dn_w dw31_1 1 rfl)
noncomputable def dt32_1 : List Nat := 160 :: 0 :: 7 :: 3 :: 167 :: 0 :: 5 :: 16 :: 243 :: 172 :: []
noncomputable def dt32_0 : List Nat := 42 :: 180 :: 0 :: 9 :: 2 :: 160 :: 0 :: 6 :: 16 :: 245 :: 172 :: 42 :: 180 :: 0 :: 9 :: 27 :: dt32_1
theorem dw32_0 : dn cX3_refusalAs 0 = dt32_0 := by decide +kernel
theorem dw32_1 : dn cX3_refusalAs 16 = dt32_1 := dn_w dw32_0 16 rfl
theorem dX3_refusalAs_0 : decode cX3_refusalAs 0 = .ok (.aload_n 0, 1) := dop_42 (dn_w dw32_0 0 rfl)
theorem dX3_refusalAs_1 : decode cX3_refusalAs 1 = .ok (.getfield 9, 3) := dop_180 (dn_w dw32_0 1 rfl) rfl
theorem dX3_refusalAs_4 : decode cX3_refusalAs 4 = .ok (.iconst (-1), 1) := dop_2 (dn_w dw32_0 4 rfl)
theorem dX3_refusalAs_5 : decode cX3_refusalAs 5 = .ok (.if_icmp .ne 6, 3) := dop_160 (dn_w dw32_0 5 rfl) rfl
theorem dX3_refusalAs_8 : decode cX3_refusalAs 8 = .ok (.bipush (-11), 2) := dop_16 (dn_w dw32_0 8 rfl) rfl
theorem dX3_refusalAs_10 : decode cX3_refusalAs 10 = .ok (.ireturn, 1) := dop_172 (dn_w dw32_0 10 rfl)
theorem dX3_refusalAs_11 : decode cX3_refusalAs 11 = .ok (.aload_n 0, 1) := dop_42 (dn_w dw32_0 11 rfl)
theorem dX3_refusalAs_12 : decode cX3_refusalAs 12 = .ok (.getfield 9, 3) := dop_180 (dn_w dw32_0 12 rfl) rfl
theorem dX3_refusalAs_15 : decode cX3_refusalAs 15 = .ok (.iload_n 1, 1) := dop_27 (dn_w dw32_0 15 rfl)
theorem dX3_refusalAs_16 : decode cX3_refusalAs 16 = .ok (.if_icmp .ne 7, 3) := dop_160 (dn_w dw32_1 0 rfl) rfl
theorem dX3_refusalAs_19 : decode cX3_refusalAs 19 = .ok (.iconst 0, 1) := dop_3 (dn_w dw32_1 3 rfl)
theorem dX3_refusalAs_20 : decode cX3_refusalAs 20 = .ok (.goto 5, 3) := dop_167 (dn_w dw32_1 4 rfl) rfl
theorem dX3_refusalAs_23 : decode cX3_refusalAs 23 = .ok (.bipush (-13), 2) := dop_16 (dn_w dw32_1 7 rfl) rfl
theorem dX3_refusalAs_25 : decode cX3_refusalAs 25 = .ok (.ireturn, 1) := dop_172 (dn_w dw32_1 9 rfl)
noncomputable def dt33_2 : List Nat := 27 :: 145 :: 133 :: 173 :: 27 :: 147 :: 133 :: 173 :: 27 :: 133 :: 173 :: []
noncomputable def dt33_1 : List Nat := 0 :: 0 :: 0 :: 0 :: 0 :: 0 :: 0 :: 28 :: 0 :: 0 :: 0 :: 1 :: 0 :: 0 :: 0 :: 32 :: dt33_2
noncomputable def dt33_0 : List Nat := 42 :: 180 :: 0 :: 9 :: 171 :: 0 :: 0 :: 0 :: 0 :: 0 :: 0 :: 36 :: 0 :: 0 :: 0 :: 2 :: dt33_1
theorem dw33_0 : dn cX3_narrowed 0 = dt33_0 := by decide +kernel
theorem dw33_1 : dn cX3_narrowed 16 = dt33_1 := dn_w dw33_0 16 rfl
theorem dw33_2 : dn cX3_narrowed 32 = dt33_2 := dn_w dw33_1 16 rfl
theorem dX3_narrowed_0 : decode cX3_narrowed 0 = .ok (.aload_n 0, 1) := dop_42 (dn_w dw33_0 0 rfl)
theorem dX3_narrowed_1 : decode cX3_narrowed 1 = .ok (.getfield 9, 3) := dop_180 (dn_w dw33_0 1 rfl) rfl
theorem dX3_narrowed_4 : decode cX3_narrowed 4 = .ok (.lookupswitch 36 #[(0, 28), (1, 32)], 28) := by decide +kernel
theorem dX3_narrowed_32 : decode cX3_narrowed 32 = .ok (.iload_n 1, 1) := dop_27 (dn_w dw33_2 0 rfl)
theorem dX3_narrowed_33 : decode cX3_narrowed 33 = .ok (.i2b, 1) := dop_145 (dn_w dw33_2 1 rfl)
theorem dX3_narrowed_34 : decode cX3_narrowed 34 = .ok (.i2l, 1) := dop_133 (dn_w dw33_2 2 rfl)
theorem dX3_narrowed_35 : decode cX3_narrowed 35 = .ok (.lreturn, 1) := dop_173 (dn_w dw33_2 3 rfl)
theorem dX3_narrowed_36 : decode cX3_narrowed 36 = .ok (.iload_n 1, 1) := dop_27 (dn_w dw33_2 4 rfl)
theorem dX3_narrowed_37 : decode cX3_narrowed 37 = .ok (.i2s, 1) := dop_147 (dn_w dw33_2 5 rfl)
theorem dX3_narrowed_38 : decode cX3_narrowed 38 = .ok (.i2l, 1) := dop_133 (dn_w dw33_2 6 rfl)
theorem dX3_narrowed_39 : decode cX3_narrowed 39 = .ok (.lreturn, 1) := dop_173 (dn_w dw33_2 7 rfl)
theorem dX3_narrowed_40 : decode cX3_narrowed 40 = .ok (.iload_n 1, 1) := dop_27 (dn_w dw33_2 8 rfl)
theorem dX3_narrowed_41 : decode cX3_narrowed 41 = .ok (.i2l, 1) := dop_133 (dn_w dw33_2 9 rfl)
theorem dX3_narrowed_42 : decode cX3_narrowed 42 = .ok (.lreturn, 1) := dop_173 (dn_w dw33_2 10 rfl)
noncomputable def dt34_1 : List Nat := 181 :: 0 :: 18 :: 177 :: []
noncomputable def dt34_0 : List Nat := 42 :: 183 :: 0 :: 3 :: 42 :: 5 :: 181 :: 0 :: 9 :: 42 :: 3 :: 181 :: 0 :: 15 :: 42 :: 3 :: dt34_1
theorem dw34_0 : dn cX4_init 0 = dt34_0 := by decide +kernel
theorem dw34_1 : dn cX4_init 16 = dt34_1 := dn_w dw34_0 16 rfl
theorem dX4_init_0 : decode cX4_init 0 = .ok (.aload_n 0, 1) := dop_42 (dn_w dw34_0 0 rfl)
theorem dX4_init_1 : decode cX4_init 1 = .ok (.invokespecial 3, 3) := dop_183 (dn_w dw34_0 1 rfl) rfl
theorem dX4_init_4 : decode cX4_init 4 = .ok (.aload_n 0, 1) := dop_42 (dn_w dw34_0 4 rfl)
theorem dX4_init_5 : decode cX4_init 5 = .ok (.iconst 2, 1) := dop_5 (dn_w dw34_0 5 rfl)
theorem dX4_init_6 : decode cX4_init 6 = .ok (.putfield 9, 3) := dop_181 (dn_w dw34_0 6 rfl) rfl
theorem dX4_init_9 : decode cX4_init 9 = .ok (.aload_n 0, 1) := dop_42 (dn_w dw34_0 9 rfl)
theorem dX4_init_10 : decode cX4_init 10 = .ok (.iconst 0, 1) := dop_3 (dn_w dw34_0 10 rfl)
theorem dX4_init_11 : decode cX4_init 11 = .ok (.putfield 15, 3) := dop_181 (dn_w dw34_0 11 rfl) rfl
theorem dX4_init_14 : decode cX4_init 14 = .ok (.aload_n 0, 1) := dop_42 (dn_w dw34_0 14 rfl)
theorem dX4_init_15 : decode cX4_init 15 = .ok (.iconst 0, 1) := dop_3 (dn_w dw34_0 15 rfl)
theorem dX4_init_16 : decode cX4_init 16 = .ok (.putfield 18, 3) := dop_181 (dn_w dw34_1 0 rfl) rfl
theorem dX4_init_19 : decode cX4_init 19 = .ok (.return_, 1) := dop_177 (dn_w dw34_1 3 rfl)
noncomputable def dt35_0 : List Nat := 42 :: 3 :: 181 :: 0 :: 9 :: 42 :: 27 :: 181 :: 0 :: 15 :: 177 :: []
theorem dw35_0 : dn cX4_holdChild 0 = dt35_0 := by decide +kernel
theorem dX4_holdChild_0 : decode cX4_holdChild 0 = .ok (.aload_n 0, 1) := dop_42 (dn_w dw35_0 0 rfl)
theorem dX4_holdChild_1 : decode cX4_holdChild 1 = .ok (.iconst 0, 1) := dop_3 (dn_w dw35_0 1 rfl)
theorem dX4_holdChild_2 : decode cX4_holdChild 2 = .ok (.putfield 9, 3) := dop_181 (dn_w dw35_0 2 rfl) rfl
theorem dX4_holdChild_5 : decode cX4_holdChild 5 = .ok (.aload_n 0, 1) := dop_42 (dn_w dw35_0 5 rfl)
theorem dX4_holdChild_6 : decode cX4_holdChild 6 = .ok (.iload_n 1, 1) := dop_27 (dn_w dw35_0 6 rfl)
theorem dX4_holdChild_7 : decode cX4_holdChild 7 = .ok (.putfield 15, 3) := dop_181 (dn_w dw35_0 7 rfl) rfl
theorem dX4_holdChild_10 : decode cX4_holdChild 10 = .ok (.return_, 1) := dop_177 (dn_w dw35_0 10 rfl)
noncomputable def dt36_0 : List Nat := 42 :: 4 :: 181 :: 0 :: 9 :: 42 :: 28 :: 181 :: 0 :: 15 :: 42 :: 27 :: 181 :: 0 :: 18 :: 177 :: []
theorem dw36_0 : dn cX4_holdRow 0 = dt36_0 := by decide +kernel
theorem dX4_holdRow_0 : decode cX4_holdRow 0 = .ok (.aload_n 0, 1) := dop_42 (dn_w dw36_0 0 rfl)
theorem dX4_holdRow_1 : decode cX4_holdRow 1 = .ok (.iconst 1, 1) := dop_4 (dn_w dw36_0 1 rfl)
theorem dX4_holdRow_2 : decode cX4_holdRow 2 = .ok (.putfield 9, 3) := dop_181 (dn_w dw36_0 2 rfl) rfl
theorem dX4_holdRow_5 : decode cX4_holdRow 5 = .ok (.aload_n 0, 1) := dop_42 (dn_w dw36_0 5 rfl)
theorem dX4_holdRow_6 : decode cX4_holdRow 6 = .ok (.iload_n 2, 1) := dop_28 (dn_w dw36_0 6 rfl)
theorem dX4_holdRow_7 : decode cX4_holdRow 7 = .ok (.putfield 15, 3) := dop_181 (dn_w dw36_0 7 rfl) rfl
theorem dX4_holdRow_10 : decode cX4_holdRow 10 = .ok (.aload_n 0, 1) := dop_42 (dn_w dw36_0 10 rfl)
theorem dX4_holdRow_11 : decode cX4_holdRow 11 = .ok (.iload_n 1, 1) := dop_27 (dn_w dw36_0 11 rfl)
theorem dX4_holdRow_12 : decode cX4_holdRow 12 = .ok (.putfield 18, 3) := dop_181 (dn_w dw36_0 12 rfl) rfl
theorem dX4_holdRow_15 : decode cX4_holdRow 15 = .ok (.return_, 1) := dop_177 (dn_w dw36_0 15 rfl)
noncomputable def dt37_2 : List Nat := 0 :: 26 :: 42 :: 3 :: 181 :: 0 :: 29 :: 42 :: 2 :: 181 :: 0 :: 32 :: 177 :: []
noncomputable def dt37_1 : List Nat := 0 :: 15 :: 42 :: 187 :: 0 :: 19 :: 89 :: 183 :: 0 :: 21 :: 181 :: 0 :: 22 :: 42 :: 3 :: 181 :: dt37_2
noncomputable def dt37_0 : List Nat := 42 :: 183 :: 0 :: 3 :: 42 :: 17 :: 0 :: 240 :: 188 :: 8 :: 181 :: 0 :: 11 :: 42 :: 3 :: 181 :: dt37_1
theorem dw37_0 : dn cX5_init 0 = dt37_0 := by decide +kernel
theorem dw37_1 : dn cX5_init 16 = dt37_1 := dn_w dw37_0 16 rfl
theorem dw37_2 : dn cX5_init 32 = dt37_2 := dn_w dw37_1 16 rfl
theorem dX5_init_0 : decode cX5_init 0 = .ok (.aload_n 0, 1) := dop_42 (dn_w dw37_0 0 rfl)
theorem dX5_init_1 : decode cX5_init 1 = .ok (.invokespecial 3, 3) := dop_183 (dn_w dw37_0 1 rfl) rfl
theorem dX5_init_4 : decode cX5_init 4 = .ok (.aload_n 0, 1) := dop_42 (dn_w dw37_0 4 rfl)
theorem dX5_init_5 : decode cX5_init 5 = .ok (.sipush 240, 3) := dop_17 (dn_w dw37_0 5 rfl) rfl
theorem dX5_init_8 : decode cX5_init 8 = .ok (.newarray .byte, 2) := by decide +kernel
theorem dX5_init_10 : decode cX5_init 10 = .ok (.putfield 11, 3) := dop_181 (dn_w dw37_0 10 rfl) rfl
theorem dX5_init_13 : decode cX5_init 13 = .ok (.aload_n 0, 1) := dop_42 (dn_w dw37_0 13 rfl)
theorem dX5_init_14 : decode cX5_init 14 = .ok (.iconst 0, 1) := dop_3 (dn_w dw37_0 14 rfl)
theorem dX5_init_15 : decode cX5_init 15 = .ok (.putfield 15, 3) := dop_181 (dn_w dw37_0 15 rfl) rfl
theorem dX5_init_18 : decode cX5_init 18 = .ok (.aload_n 0, 1) := dop_42 (dn_w dw37_1 2 rfl)
theorem dX5_init_19 : decode cX5_init 19 = .ok (.new 19, 3) := dop_187 (dn_w dw37_1 3 rfl) rfl
theorem dX5_init_22 : decode cX5_init 22 = .ok (.dup, 1) := dop_89 (dn_w dw37_1 6 rfl)
theorem dX5_init_23 : decode cX5_init 23 = .ok (.invokespecial 21, 3) := dop_183 (dn_w dw37_1 7 rfl) rfl
theorem dX5_init_26 : decode cX5_init 26 = .ok (.putfield 22, 3) := dop_181 (dn_w dw37_1 10 rfl) rfl
theorem dX5_init_29 : decode cX5_init 29 = .ok (.aload_n 0, 1) := dop_42 (dn_w dw37_1 13 rfl)
theorem dX5_init_30 : decode cX5_init 30 = .ok (.iconst 0, 1) := dop_3 (dn_w dw37_1 14 rfl)
theorem dX5_init_31 : decode cX5_init 31 = .ok (.putfield 26, 3) := dop_181 (dn_w dw37_1 15 rfl) rfl
theorem dX5_init_34 : decode cX5_init 34 = .ok (.aload_n 0, 1) := dop_42 (dn_w dw37_2 2 rfl)
theorem dX5_init_35 : decode cX5_init 35 = .ok (.iconst 0, 1) := dop_3 (dn_w dw37_2 3 rfl)
theorem dX5_init_36 : decode cX5_init 36 = .ok (.putfield 29, 3) := dop_181 (dn_w dw37_2 4 rfl) rfl
theorem dX5_init_39 : decode cX5_init 39 = .ok (.aload_n 0, 1) := dop_42 (dn_w dw37_2 7 rfl)
theorem dX5_init_40 : decode cX5_init 40 = .ok (.iconst (-1), 1) := dop_2 (dn_w dw37_2 8 rfl)
theorem dX5_init_41 : decode cX5_init 41 = .ok (.putfield 32, 3) := dop_181 (dn_w dw37_2 9 rfl) rfl
theorem dX5_init_44 : decode cX5_init 44 = .ok (.return_, 1) := dop_177 (dn_w dw37_2 12 rfl)
noncomputable def dt38_3 : List Nat := 181 :: 0 :: 15 :: 132 :: 4 :: 1 :: 167 :: 255 :: 219 :: 4 :: 172 :: []
noncomputable def dt38_2 : List Nat := 16 :: 8 :: 21 :: 4 :: 104 :: 123 :: 136 :: 145 :: 84 :: 42 :: 89 :: 180 :: 0 :: 15 :: 4 :: 96 :: dt38_3
noncomputable def dt38_1 : List Nat := 4 :: 21 :: 4 :: 29 :: 162 :: 0 :: 37 :: 42 :: 180 :: 0 :: 11 :: 42 :: 180 :: 0 :: 15 :: 31 :: dt38_2
noncomputable def dt38_0 : List Nat := 29 :: 17 :: 0 :: 240 :: 42 :: 180 :: 0 :: 15 :: 100 :: 164 :: 0 :: 5 :: 3 :: 172 :: 3 :: 54 :: dt38_1
theorem dw38_0 : dn cX5_takeBytes 0 = dt38_0 := by decide +kernel
theorem dw38_1 : dn cX5_takeBytes 16 = dt38_1 := dn_w dw38_0 16 rfl
theorem dw38_2 : dn cX5_takeBytes 32 = dt38_2 := dn_w dw38_1 16 rfl
theorem dw38_3 : dn cX5_takeBytes 48 = dt38_3 := dn_w dw38_2 16 rfl
theorem dX5_takeBytes_0 : decode cX5_takeBytes 0 = .ok (.iload_n 3, 1) := dop_29 (dn_w dw38_0 0 rfl)
theorem dX5_takeBytes_1 : decode cX5_takeBytes 1 = .ok (.sipush 240, 3) := dop_17 (dn_w dw38_0 1 rfl) rfl
theorem dX5_takeBytes_4 : decode cX5_takeBytes 4 = .ok (.aload_n 0, 1) := dop_42 (dn_w dw38_0 4 rfl)
theorem dX5_takeBytes_5 : decode cX5_takeBytes 5 = .ok (.getfield 15, 3) := dop_180 (dn_w dw38_0 5 rfl) rfl
theorem dX5_takeBytes_8 : decode cX5_takeBytes 8 = .ok (.isub, 1) := dop_100 (dn_w dw38_0 8 rfl)
theorem dX5_takeBytes_9 : decode cX5_takeBytes 9 = .ok (.if_icmp .le 5, 3) := dop_164 (dn_w dw38_0 9 rfl) rfl
theorem dX5_takeBytes_12 : decode cX5_takeBytes 12 = .ok (.iconst 0, 1) := dop_3 (dn_w dw38_0 12 rfl)
theorem dX5_takeBytes_13 : decode cX5_takeBytes 13 = .ok (.ireturn, 1) := dop_172 (dn_w dw38_0 13 rfl)
theorem dX5_takeBytes_14 : decode cX5_takeBytes 14 = .ok (.iconst 0, 1) := dop_3 (dn_w dw38_0 14 rfl)
theorem dX5_takeBytes_15 : decode cX5_takeBytes 15 = .ok (.istore 4, 2) := dop_54 (dn_w dw38_0 15 rfl)
theorem dX5_takeBytes_17 : decode cX5_takeBytes 17 = .ok (.iload 4, 2) := dop_21 (dn_w dw38_1 1 rfl)
theorem dX5_takeBytes_19 : decode cX5_takeBytes 19 = .ok (.iload_n 3, 1) := dop_29 (dn_w dw38_1 3 rfl)
theorem dX5_takeBytes_20 : decode cX5_takeBytes 20 = .ok (.if_icmp .ge 37, 3) := dop_162 (dn_w dw38_1 4 rfl) rfl
theorem dX5_takeBytes_23 : decode cX5_takeBytes 23 = .ok (.aload_n 0, 1) := dop_42 (dn_w dw38_1 7 rfl)
theorem dX5_takeBytes_24 : decode cX5_takeBytes 24 = .ok (.getfield 11, 3) := dop_180 (dn_w dw38_1 8 rfl) rfl
theorem dX5_takeBytes_27 : decode cX5_takeBytes 27 = .ok (.aload_n 0, 1) := dop_42 (dn_w dw38_1 11 rfl)
theorem dX5_takeBytes_28 : decode cX5_takeBytes 28 = .ok (.getfield 15, 3) := dop_180 (dn_w dw38_1 12 rfl) rfl
theorem dX5_takeBytes_31 : decode cX5_takeBytes 31 = .ok (.lload_n 1, 1) := dop_31 (dn_w dw38_1 15 rfl)
theorem dX5_takeBytes_32 : decode cX5_takeBytes 32 = .ok (.bipush 8, 2) := dop_16 (dn_w dw38_2 0 rfl) rfl
theorem dX5_takeBytes_34 : decode cX5_takeBytes 34 = .ok (.iload 4, 2) := dop_21 (dn_w dw38_2 2 rfl)
theorem dX5_takeBytes_36 : decode cX5_takeBytes 36 = .ok (.imul, 1) := dop_104 (dn_w dw38_2 4 rfl)
theorem dX5_takeBytes_37 : decode cX5_takeBytes 37 = .ok (.lshr, 1) := dop_123 (dn_w dw38_2 5 rfl)
theorem dX5_takeBytes_38 : decode cX5_takeBytes 38 = .ok (.l2i, 1) := dop_136 (dn_w dw38_2 6 rfl)
theorem dX5_takeBytes_39 : decode cX5_takeBytes 39 = .ok (.i2b, 1) := dop_145 (dn_w dw38_2 7 rfl)
theorem dX5_takeBytes_40 : decode cX5_takeBytes 40 = .ok (.bastore, 1) := dop_84 (dn_w dw38_2 8 rfl)
theorem dX5_takeBytes_41 : decode cX5_takeBytes 41 = .ok (.aload_n 0, 1) := dop_42 (dn_w dw38_2 9 rfl)
theorem dX5_takeBytes_42 : decode cX5_takeBytes 42 = .ok (.dup, 1) := dop_89 (dn_w dw38_2 10 rfl)
theorem dX5_takeBytes_43 : decode cX5_takeBytes 43 = .ok (.getfield 15, 3) := dop_180 (dn_w dw38_2 11 rfl) rfl
theorem dX5_takeBytes_46 : decode cX5_takeBytes 46 = .ok (.iconst 1, 1) := dop_4 (dn_w dw38_2 14 rfl)
theorem dX5_takeBytes_47 : decode cX5_takeBytes 47 = .ok (.iadd, 1) := dop_96 (dn_w dw38_2 15 rfl)
theorem dX5_takeBytes_48 : decode cX5_takeBytes 48 = .ok (.putfield 15, 3) := dop_181 (dn_w dw38_3 0 rfl) rfl
theorem dX5_takeBytes_51 : decode cX5_takeBytes 51 = .ok (.iinc 4 1, 3) := dop_132 (dn_w dw38_3 3 rfl) rfl
theorem dX5_takeBytes_54 : decode cX5_takeBytes 54 = .ok (.goto (-37), 3) := dop_167 (dn_w dw38_3 6 rfl) rfl
theorem dX5_takeBytes_57 : decode cX5_takeBytes 57 = .ok (.iconst 1, 1) := dop_4 (dn_w dw38_3 9 rfl)
theorem dX5_takeBytes_58 : decode cX5_takeBytes 58 = .ok (.ireturn, 1) := dop_172 (dn_w dw38_3 10 rfl)
noncomputable def dt39_4 : List Nat := 3 :: 181 :: 0 :: 15 :: 42 :: 180 :: 0 :: 32 :: 172 :: []
noncomputable def dt39_3 : List Nat := 17 :: 42 :: 182 :: 0 :: 42 :: 42 :: 182 :: 0 :: 39 :: 132 :: 2 :: 1 :: 167 :: 255 :: 220 :: 42 :: dt39_4
noncomputable def dt39_2 : List Nat := 180 :: 0 :: 26 :: 42 :: 180 :: 0 :: 15 :: 162 :: 0 :: 24 :: 42 :: 180 :: 0 :: 32 :: 156 :: 0 :: dt39_3
noncomputable def dt39_1 : List Nat := 0 :: 32 :: 42 :: 182 :: 0 :: 39 :: 3 :: 61 :: 28 :: 17 :: 0 :: 240 :: 162 :: 0 :: 35 :: 42 :: dt39_2
noncomputable def dt39_0 : List Nat := 42 :: 180 :: 0 :: 22 :: 43 :: 182 :: 0 :: 35 :: 42 :: 3 :: 181 :: 0 :: 26 :: 42 :: 2 :: 181 :: dt39_1
theorem dw39_0 : dn cX5_readTape 0 = dt39_0 := by decide +kernel
theorem dw39_1 : dn cX5_readTape 16 = dt39_1 := dn_w dw39_0 16 rfl
theorem dw39_2 : dn cX5_readTape 32 = dt39_2 := dn_w dw39_1 16 rfl
theorem dw39_3 : dn cX5_readTape 48 = dt39_3 := dn_w dw39_2 16 rfl
theorem dw39_4 : dn cX5_readTape 64 = dt39_4 := dn_w dw39_3 16 rfl
theorem dX5_readTape_0 : decode cX5_readTape 0 = .ok (.aload_n 0, 1) := dop_42 (dn_w dw39_0 0 rfl)
theorem dX5_readTape_1 : decode cX5_readTape 1 = .ok (.getfield 22, 3) := dop_180 (dn_w dw39_0 1 rfl) rfl
theorem dX5_readTape_4 : decode cX5_readTape 4 = .ok (.aload_n 1, 1) := dop_43 (dn_w dw39_0 4 rfl)
theorem dX5_readTape_5 : decode cX5_readTape 5 = .ok (.invokevirtual 35, 3) := dop_182 (dn_w dw39_0 5 rfl) rfl
theorem dX5_readTape_8 : decode cX5_readTape 8 = .ok (.aload_n 0, 1) := dop_42 (dn_w dw39_0 8 rfl)
theorem dX5_readTape_9 : decode cX5_readTape 9 = .ok (.iconst 0, 1) := dop_3 (dn_w dw39_0 9 rfl)
theorem dX5_readTape_10 : decode cX5_readTape 10 = .ok (.putfield 26, 3) := dop_181 (dn_w dw39_0 10 rfl) rfl
theorem dX5_readTape_13 : decode cX5_readTape 13 = .ok (.aload_n 0, 1) := dop_42 (dn_w dw39_0 13 rfl)
theorem dX5_readTape_14 : decode cX5_readTape 14 = .ok (.iconst (-1), 1) := dop_2 (dn_w dw39_0 14 rfl)
theorem dX5_readTape_15 : decode cX5_readTape 15 = .ok (.putfield 32, 3) := dop_181 (dn_w dw39_0 15 rfl) rfl
theorem dX5_readTape_18 : decode cX5_readTape 18 = .ok (.aload_n 0, 1) := dop_42 (dn_w dw39_1 2 rfl)
theorem dX5_readTape_19 : decode cX5_readTape 19 = .ok (.invokevirtual 39, 3) := dop_182 (dn_w dw39_1 3 rfl) rfl
theorem dX5_readTape_22 : decode cX5_readTape 22 = .ok (.iconst 0, 1) := dop_3 (dn_w dw39_1 6 rfl)
theorem dX5_readTape_23 : decode cX5_readTape 23 = .ok (.istore_n 2, 1) := dop_61 (dn_w dw39_1 7 rfl)
theorem dX5_readTape_24 : decode cX5_readTape 24 = .ok (.iload_n 2, 1) := dop_28 (dn_w dw39_1 8 rfl)
theorem dX5_readTape_25 : decode cX5_readTape 25 = .ok (.sipush 240, 3) := dop_17 (dn_w dw39_1 9 rfl) rfl
theorem dX5_readTape_28 : decode cX5_readTape 28 = .ok (.if_icmp .ge 35, 3) := dop_162 (dn_w dw39_1 12 rfl) rfl
theorem dX5_readTape_31 : decode cX5_readTape 31 = .ok (.aload_n 0, 1) := dop_42 (dn_w dw39_1 15 rfl)
theorem dX5_readTape_32 : decode cX5_readTape 32 = .ok (.getfield 26, 3) := dop_180 (dn_w dw39_2 0 rfl) rfl
theorem dX5_readTape_35 : decode cX5_readTape 35 = .ok (.aload_n 0, 1) := dop_42 (dn_w dw39_2 3 rfl)
theorem dX5_readTape_36 : decode cX5_readTape 36 = .ok (.getfield 15, 3) := dop_180 (dn_w dw39_2 4 rfl) rfl
theorem dX5_readTape_39 : decode cX5_readTape 39 = .ok (.if_icmp .ge 24, 3) := dop_162 (dn_w dw39_2 7 rfl) rfl
theorem dX5_readTape_42 : decode cX5_readTape 42 = .ok (.aload_n 0, 1) := dop_42 (dn_w dw39_2 10 rfl)
theorem dX5_readTape_43 : decode cX5_readTape 43 = .ok (.getfield 32, 3) := dop_180 (dn_w dw39_2 11 rfl) rfl
theorem dX5_readTape_46 : decode cX5_readTape 46 = .ok (.ifCond .ge 17, 3) := dop_156 (dn_w dw39_2 14 rfl) rfl
theorem dX5_readTape_49 : decode cX5_readTape 49 = .ok (.aload_n 0, 1) := dop_42 (dn_w dw39_3 1 rfl)
theorem dX5_readTape_50 : decode cX5_readTape 50 = .ok (.invokevirtual 42, 3) := dop_182 (dn_w dw39_3 2 rfl) rfl
theorem dX5_readTape_53 : decode cX5_readTape 53 = .ok (.aload_n 0, 1) := dop_42 (dn_w dw39_3 5 rfl)
theorem dX5_readTape_54 : decode cX5_readTape 54 = .ok (.invokevirtual 39, 3) := dop_182 (dn_w dw39_3 6 rfl) rfl
theorem dX5_readTape_57 : decode cX5_readTape 57 = .ok (.iinc 2 1, 3) := dop_132 (dn_w dw39_3 9 rfl) rfl
theorem dX5_readTape_60 : decode cX5_readTape 60 = .ok (.goto (-36), 3) := dop_167 (dn_w dw39_3 12 rfl) rfl
theorem dX5_readTape_63 : decode cX5_readTape 63 = .ok (.aload_n 0, 1) := dop_42 (dn_w dw39_3 15 rfl)
theorem dX5_readTape_64 : decode cX5_readTape 64 = .ok (.iconst 0, 1) := dop_3 (dn_w dw39_4 0 rfl)
theorem dX5_readTape_65 : decode cX5_readTape 65 = .ok (.putfield 15, 3) := dop_181 (dn_w dw39_4 1 rfl) rfl
theorem dX5_readTape_68 : decode cX5_readTape 68 = .ok (.aload_n 0, 1) := dop_42 (dn_w dw39_4 4 rfl)
theorem dX5_readTape_69 : decode cX5_readTape 69 = .ok (.getfield 32, 3) := dop_180 (dn_w dw39_4 5 rfl) rfl
theorem dX5_readTape_72 : decode cX5_readTape 72 = .ok (.ireturn, 1) := dop_172 (dn_w dw39_4 8 rfl)
noncomputable def dt40_11 : List Nat := 0 :: 76 :: 177 :: []
noncomputable def dt40_10 : List Nat := 0 :: 26 :: 4 :: 96 :: 181 :: 0 :: 26 :: 167 :: 0 :: 11 :: 42 :: 42 :: 180 :: 0 :: 26 :: 182 :: dt40_11
noncomputable def dt40_9 : List Nat := 180 :: 0 :: 11 :: 42 :: 180 :: 0 :: 26 :: 51 :: 16 :: 59 :: 160 :: 0 :: 16 :: 42 :: 89 :: 180 :: dt40_10
noncomputable def dt40_8 : List Nat := 42 :: 182 :: 0 :: 39 :: 42 :: 180 :: 0 :: 26 :: 42 :: 180 :: 0 :: 15 :: 162 :: 0 :: 30 :: 42 :: dt40_9
noncomputable def dt40_7 : List Nat := 0 :: 69 :: 4 :: 46 :: 182 :: 0 :: 55 :: 79 :: 167 :: 0 :: 8 :: 42 :: 27 :: 182 :: 0 :: 72 :: dt40_8
noncomputable def dt40_6 : List Nat := 34 :: 42 :: 180 :: 0 :: 22 :: 180 :: 0 :: 62 :: 4 :: 42 :: 178 :: 0 :: 66 :: 4 :: 46 :: 178 :: dt40_7
noncomputable def dt40_5 : List Nat := 178 :: 0 :: 66 :: 3 :: 46 :: 178 :: 0 :: 69 :: 3 :: 46 :: 182 :: 0 :: 55 :: 79 :: 167 :: 0 :: dt40_6
noncomputable def dt40_4 : List Nat := 55 :: 181 :: 0 :: 59 :: 167 :: 0 :: 60 :: 42 :: 180 :: 0 :: 22 :: 180 :: 0 :: 62 :: 3 :: 42 :: dt40_5
noncomputable def dt40_3 : List Nat := 182 :: 0 :: 52 :: 167 :: 0 :: 77 :: 42 :: 180 :: 0 :: 22 :: 42 :: 3 :: 16 :: 40 :: 182 :: 0 :: dt40_4
noncomputable def dt40_2 : List Nat := 0 :: 0 :: 0 :: 65 :: 0 :: 0 :: 0 :: 91 :: 42 :: 182 :: 0 :: 49 :: 167 :: 0 :: 84 :: 42 :: dt40_3
noncomputable def dt40_1 : List Nat := 0 :: 0 :: 0 :: 12 :: 0 :: 0 :: 0 :: 34 :: 0 :: 0 :: 0 :: 41 :: 0 :: 0 :: 0 :: 48 :: dt40_2
noncomputable def dt40_0 : List Nat := 42 :: 182 :: 0 :: 45 :: 60 :: 27 :: 170 :: 0 :: 0 :: 0 :: 0 :: 117 :: 0 :: 0 :: 0 :: 8 :: dt40_1
theorem dw40_0 : dn cX5_readItem 0 = dt40_0 := by decide +kernel
theorem dw40_1 : dn cX5_readItem 16 = dt40_1 := dn_w dw40_0 16 rfl
theorem dw40_2 : dn cX5_readItem 32 = dt40_2 := dn_w dw40_1 16 rfl
theorem dw40_3 : dn cX5_readItem 48 = dt40_3 := dn_w dw40_2 16 rfl
theorem dw40_4 : dn cX5_readItem 64 = dt40_4 := dn_w dw40_3 16 rfl
theorem dw40_5 : dn cX5_readItem 80 = dt40_5 := dn_w dw40_4 16 rfl
theorem dw40_6 : dn cX5_readItem 96 = dt40_6 := dn_w dw40_5 16 rfl
theorem dw40_7 : dn cX5_readItem 112 = dt40_7 := dn_w dw40_6 16 rfl
theorem dw40_8 : dn cX5_readItem 128 = dt40_8 := dn_w dw40_7 16 rfl
theorem dw40_9 : dn cX5_readItem 144 = dt40_9 := dn_w dw40_8 16 rfl
theorem dw40_10 : dn cX5_readItem 160 = dt40_10 := dn_w dw40_9 16 rfl
theorem dw40_11 : dn cX5_readItem 176 = dt40_11 := dn_w dw40_10 16 rfl
theorem dX5_readItem_0 : decode cX5_readItem 0 = .ok (.aload_n 0, 1) := dop_42 (dn_w dw40_0 0 rfl)
theorem dX5_readItem_1 : decode cX5_readItem 1 = .ok (.invokevirtual 45, 3) := dop_182 (dn_w dw40_0 1 rfl) rfl
theorem dX5_readItem_4 : decode cX5_readItem 4 = .ok (.istore_n 1, 1) := dop_60 (dn_w dw40_0 4 rfl)
theorem dX5_readItem_5 : decode cX5_readItem 5 = .ok (.iload_n 1, 1) := dop_27 (dn_w dw40_0 5 rfl)
theorem dX5_readItem_6 : decode cX5_readItem 6 = .ok (.tableswitch 117 8 12 #[34, 41, 48, 65, 91], 34) := by decide +kernel
theorem dX5_readItem_40 : decode cX5_readItem 40 = .ok (.aload_n 0, 1) := dop_42 (dn_w dw40_2 8 rfl)
theorem dX5_readItem_41 : decode cX5_readItem 41 = .ok (.invokevirtual 49, 3) := dop_182 (dn_w dw40_2 9 rfl) rfl
theorem dX5_readItem_44 : decode cX5_readItem 44 = .ok (.goto 84, 3) := dop_167 (dn_w dw40_2 12 rfl) rfl
theorem dX5_readItem_47 : decode cX5_readItem 47 = .ok (.aload_n 0, 1) := dop_42 (dn_w dw40_2 15 rfl)
theorem dX5_readItem_48 : decode cX5_readItem 48 = .ok (.invokevirtual 52, 3) := dop_182 (dn_w dw40_3 0 rfl) rfl
theorem dX5_readItem_51 : decode cX5_readItem 51 = .ok (.goto 77, 3) := dop_167 (dn_w dw40_3 3 rfl) rfl
theorem dX5_readItem_54 : decode cX5_readItem 54 = .ok (.aload_n 0, 1) := dop_42 (dn_w dw40_3 6 rfl)
theorem dX5_readItem_55 : decode cX5_readItem 55 = .ok (.getfield 22, 3) := dop_180 (dn_w dw40_3 7 rfl) rfl
theorem dX5_readItem_58 : decode cX5_readItem 58 = .ok (.aload_n 0, 1) := dop_42 (dn_w dw40_3 10 rfl)
theorem dX5_readItem_59 : decode cX5_readItem 59 = .ok (.iconst 0, 1) := dop_3 (dn_w dw40_3 11 rfl)
theorem dX5_readItem_60 : decode cX5_readItem 60 = .ok (.bipush 40, 2) := dop_16 (dn_w dw40_3 12 rfl) rfl
theorem dX5_readItem_62 : decode cX5_readItem 62 = .ok (.invokevirtual 55, 3) := dop_182 (dn_w dw40_3 14 rfl) rfl
theorem dX5_readItem_65 : decode cX5_readItem 65 = .ok (.putfield 59, 3) := dop_181 (dn_w dw40_4 1 rfl) rfl
theorem dX5_readItem_68 : decode cX5_readItem 68 = .ok (.goto 60, 3) := dop_167 (dn_w dw40_4 4 rfl) rfl
theorem dX5_readItem_71 : decode cX5_readItem 71 = .ok (.aload_n 0, 1) := dop_42 (dn_w dw40_4 7 rfl)
theorem dX5_readItem_72 : decode cX5_readItem 72 = .ok (.getfield 22, 3) := dop_180 (dn_w dw40_4 8 rfl) rfl
theorem dX5_readItem_75 : decode cX5_readItem 75 = .ok (.getfield 62, 3) := dop_180 (dn_w dw40_4 11 rfl) rfl
theorem dX5_readItem_78 : decode cX5_readItem 78 = .ok (.iconst 0, 1) := dop_3 (dn_w dw40_4 14 rfl)
theorem dX5_readItem_79 : decode cX5_readItem 79 = .ok (.aload_n 0, 1) := dop_42 (dn_w dw40_4 15 rfl)
theorem dX5_readItem_80 : decode cX5_readItem 80 = .ok (.getstatic 66, 3) := dop_178 (dn_w dw40_5 0 rfl) rfl
theorem dX5_readItem_83 : decode cX5_readItem 83 = .ok (.iconst 0, 1) := dop_3 (dn_w dw40_5 3 rfl)
theorem dX5_readItem_84 : decode cX5_readItem 84 = .ok (.iaload, 1) := dop_46 (dn_w dw40_5 4 rfl)
theorem dX5_readItem_85 : decode cX5_readItem 85 = .ok (.getstatic 69, 3) := dop_178 (dn_w dw40_5 5 rfl) rfl
theorem dX5_readItem_88 : decode cX5_readItem 88 = .ok (.iconst 0, 1) := dop_3 (dn_w dw40_5 8 rfl)
theorem dX5_readItem_89 : decode cX5_readItem 89 = .ok (.iaload, 1) := dop_46 (dn_w dw40_5 9 rfl)
theorem dX5_readItem_90 : decode cX5_readItem 90 = .ok (.invokevirtual 55, 3) := dop_182 (dn_w dw40_5 10 rfl) rfl
theorem dX5_readItem_93 : decode cX5_readItem 93 = .ok (.iastore, 1) := dop_79 (dn_w dw40_5 13 rfl)
theorem dX5_readItem_94 : decode cX5_readItem 94 = .ok (.goto 34, 3) := dop_167 (dn_w dw40_5 14 rfl) rfl
theorem dX5_readItem_97 : decode cX5_readItem 97 = .ok (.aload_n 0, 1) := dop_42 (dn_w dw40_6 1 rfl)
theorem dX5_readItem_98 : decode cX5_readItem 98 = .ok (.getfield 22, 3) := dop_180 (dn_w dw40_6 2 rfl) rfl
theorem dX5_readItem_101 : decode cX5_readItem 101 = .ok (.getfield 62, 3) := dop_180 (dn_w dw40_6 5 rfl) rfl
theorem dX5_readItem_104 : decode cX5_readItem 104 = .ok (.iconst 1, 1) := dop_4 (dn_w dw40_6 8 rfl)
theorem dX5_readItem_105 : decode cX5_readItem 105 = .ok (.aload_n 0, 1) := dop_42 (dn_w dw40_6 9 rfl)
theorem dX5_readItem_106 : decode cX5_readItem 106 = .ok (.getstatic 66, 3) := dop_178 (dn_w dw40_6 10 rfl) rfl
theorem dX5_readItem_109 : decode cX5_readItem 109 = .ok (.iconst 1, 1) := dop_4 (dn_w dw40_6 13 rfl)
theorem dX5_readItem_110 : decode cX5_readItem 110 = .ok (.iaload, 1) := dop_46 (dn_w dw40_6 14 rfl)
theorem dX5_readItem_111 : decode cX5_readItem 111 = .ok (.getstatic 69, 3) := dop_178 (dn_w dw40_6 15 rfl) rfl
theorem dX5_readItem_114 : decode cX5_readItem 114 = .ok (.iconst 1, 1) := dop_4 (dn_w dw40_7 2 rfl)
theorem dX5_readItem_115 : decode cX5_readItem 115 = .ok (.iaload, 1) := dop_46 (dn_w dw40_7 3 rfl)
theorem dX5_readItem_116 : decode cX5_readItem 116 = .ok (.invokevirtual 55, 3) := dop_182 (dn_w dw40_7 4 rfl) rfl
theorem dX5_readItem_119 : decode cX5_readItem 119 = .ok (.iastore, 1) := dop_79 (dn_w dw40_7 7 rfl)
theorem dX5_readItem_120 : decode cX5_readItem 120 = .ok (.goto 8, 3) := dop_167 (dn_w dw40_7 8 rfl) rfl
theorem dX5_readItem_123 : decode cX5_readItem 123 = .ok (.aload_n 0, 1) := dop_42 (dn_w dw40_7 11 rfl)
theorem dX5_readItem_124 : decode cX5_readItem 124 = .ok (.iload_n 1, 1) := dop_27 (dn_w dw40_7 12 rfl)
theorem dX5_readItem_125 : decode cX5_readItem 125 = .ok (.invokevirtual 72, 3) := dop_182 (dn_w dw40_7 13 rfl) rfl
theorem dX5_readItem_128 : decode cX5_readItem 128 = .ok (.aload_n 0, 1) := dop_42 (dn_w dw40_8 0 rfl)
theorem dX5_readItem_129 : decode cX5_readItem 129 = .ok (.invokevirtual 39, 3) := dop_182 (dn_w dw40_8 1 rfl) rfl
theorem dX5_readItem_132 : decode cX5_readItem 132 = .ok (.aload_n 0, 1) := dop_42 (dn_w dw40_8 4 rfl)
theorem dX5_readItem_133 : decode cX5_readItem 133 = .ok (.getfield 26, 3) := dop_180 (dn_w dw40_8 5 rfl) rfl
theorem dX5_readItem_136 : decode cX5_readItem 136 = .ok (.aload_n 0, 1) := dop_42 (dn_w dw40_8 8 rfl)
theorem dX5_readItem_137 : decode cX5_readItem 137 = .ok (.getfield 15, 3) := dop_180 (dn_w dw40_8 9 rfl) rfl
theorem dX5_readItem_140 : decode cX5_readItem 140 = .ok (.if_icmp .ge 30, 3) := dop_162 (dn_w dw40_8 12 rfl) rfl
theorem dX5_readItem_143 : decode cX5_readItem 143 = .ok (.aload_n 0, 1) := dop_42 (dn_w dw40_8 15 rfl)
theorem dX5_readItem_144 : decode cX5_readItem 144 = .ok (.getfield 11, 3) := dop_180 (dn_w dw40_9 0 rfl) rfl
theorem dX5_readItem_147 : decode cX5_readItem 147 = .ok (.aload_n 0, 1) := dop_42 (dn_w dw40_9 3 rfl)
theorem dX5_readItem_148 : decode cX5_readItem 148 = .ok (.getfield 26, 3) := dop_180 (dn_w dw40_9 4 rfl) rfl
theorem dX5_readItem_151 : decode cX5_readItem 151 = .ok (.baload, 1) := dop_51 (dn_w dw40_9 7 rfl)
theorem dX5_readItem_152 : decode cX5_readItem 152 = .ok (.bipush 59, 2) := dop_16 (dn_w dw40_9 8 rfl) rfl
theorem dX5_readItem_154 : decode cX5_readItem 154 = .ok (.if_icmp .ne 16, 3) := dop_160 (dn_w dw40_9 10 rfl) rfl
theorem dX5_readItem_157 : decode cX5_readItem 157 = .ok (.aload_n 0, 1) := dop_42 (dn_w dw40_9 13 rfl)
theorem dX5_readItem_158 : decode cX5_readItem 158 = .ok (.dup, 1) := dop_89 (dn_w dw40_9 14 rfl)
theorem dX5_readItem_159 : decode cX5_readItem 159 = .ok (.getfield 26, 3) := dop_180 (dn_w dw40_9 15 rfl) rfl
theorem dX5_readItem_162 : decode cX5_readItem 162 = .ok (.iconst 1, 1) := dop_4 (dn_w dw40_10 2 rfl)
theorem dX5_readItem_163 : decode cX5_readItem 163 = .ok (.iadd, 1) := dop_96 (dn_w dw40_10 3 rfl)
theorem dX5_readItem_164 : decode cX5_readItem 164 = .ok (.putfield 26, 3) := dop_181 (dn_w dw40_10 4 rfl) rfl
theorem dX5_readItem_167 : decode cX5_readItem 167 = .ok (.goto 11, 3) := dop_167 (dn_w dw40_10 7 rfl) rfl
theorem dX5_readItem_170 : decode cX5_readItem 170 = .ok (.aload_n 0, 1) := dop_42 (dn_w dw40_10 10 rfl)
theorem dX5_readItem_171 : decode cX5_readItem 171 = .ok (.aload_n 0, 1) := dop_42 (dn_w dw40_10 11 rfl)
theorem dX5_readItem_172 : decode cX5_readItem 172 = .ok (.getfield 26, 3) := dop_180 (dn_w dw40_10 12 rfl) rfl
theorem dX5_readItem_175 : decode cX5_readItem 175 = .ok (.invokevirtual 76, 3) := dop_182 (dn_w dw40_10 15 rfl) rfl
theorem dX5_readItem_178 : decode cX5_readItem 178 = .ok (.return_, 1) := dop_177 (dn_w dw40_11 2 rfl)
noncomputable def dt41_2 : List Nat := 79 :: 177 :: []
noncomputable def dt41_1 : List Nat := 42 :: 180 :: 0 :: 32 :: 156 :: 0 :: 13 :: 42 :: 180 :: 0 :: 22 :: 180 :: 0 :: 79 :: 27 :: 28 :: dt41_2
noncomputable def dt41_0 : List Nat := 42 :: 3 :: 16 :: 39 :: 182 :: 0 :: 55 :: 60 :: 42 :: 3 :: 16 :: 31 :: 182 :: 0 :: 55 :: 61 :: dt41_1
theorem dw41_0 : dn cX5_readDay 0 = dt41_0 := by decide +kernel
theorem dw41_1 : dn cX5_readDay 16 = dt41_1 := dn_w dw41_0 16 rfl
theorem dw41_2 : dn cX5_readDay 32 = dt41_2 := dn_w dw41_1 16 rfl
theorem dX5_readDay_0 : decode cX5_readDay 0 = .ok (.aload_n 0, 1) := dop_42 (dn_w dw41_0 0 rfl)
theorem dX5_readDay_1 : decode cX5_readDay 1 = .ok (.iconst 0, 1) := dop_3 (dn_w dw41_0 1 rfl)
theorem dX5_readDay_2 : decode cX5_readDay 2 = .ok (.bipush 39, 2) := dop_16 (dn_w dw41_0 2 rfl) rfl
theorem dX5_readDay_4 : decode cX5_readDay 4 = .ok (.invokevirtual 55, 3) := dop_182 (dn_w dw41_0 4 rfl) rfl
theorem dX5_readDay_7 : decode cX5_readDay 7 = .ok (.istore_n 1, 1) := dop_60 (dn_w dw41_0 7 rfl)
theorem dX5_readDay_8 : decode cX5_readDay 8 = .ok (.aload_n 0, 1) := dop_42 (dn_w dw41_0 8 rfl)
theorem dX5_readDay_9 : decode cX5_readDay 9 = .ok (.iconst 0, 1) := dop_3 (dn_w dw41_0 9 rfl)
theorem dX5_readDay_10 : decode cX5_readDay 10 = .ok (.bipush 31, 2) := dop_16 (dn_w dw41_0 10 rfl) rfl
theorem dX5_readDay_12 : decode cX5_readDay 12 = .ok (.invokevirtual 55, 3) := dop_182 (dn_w dw41_0 12 rfl) rfl
theorem dX5_readDay_15 : decode cX5_readDay 15 = .ok (.istore_n 2, 1) := dop_61 (dn_w dw41_0 15 rfl)
theorem dX5_readDay_16 : decode cX5_readDay 16 = .ok (.aload_n 0, 1) := dop_42 (dn_w dw41_1 0 rfl)
theorem dX5_readDay_17 : decode cX5_readDay 17 = .ok (.getfield 32, 3) := dop_180 (dn_w dw41_1 1 rfl) rfl
theorem dX5_readDay_20 : decode cX5_readDay 20 = .ok (.ifCond .ge 13, 3) := dop_156 (dn_w dw41_1 4 rfl) rfl
theorem dX5_readDay_23 : decode cX5_readDay 23 = .ok (.aload_n 0, 1) := dop_42 (dn_w dw41_1 7 rfl)
theorem dX5_readDay_24 : decode cX5_readDay 24 = .ok (.getfield 22, 3) := dop_180 (dn_w dw41_1 8 rfl) rfl
theorem dX5_readDay_27 : decode cX5_readDay 27 = .ok (.getfield 79, 3) := dop_180 (dn_w dw41_1 11 rfl) rfl
theorem dX5_readDay_30 : decode cX5_readDay 30 = .ok (.iload_n 1, 1) := dop_27 (dn_w dw41_1 14 rfl)
theorem dX5_readDay_31 : decode cX5_readDay 31 = .ok (.iload_n 2, 1) := dop_28 (dn_w dw41_1 15 rfl)
theorem dX5_readDay_32 : decode cX5_readDay 32 = .ok (.iastore, 1) := dop_79 (dn_w dw41_2 0 rfl)
theorem dX5_readDay_33 : decode cX5_readDay 33 = .ok (.return_, 1) := dop_177 (dn_w dw41_2 1 rfl)
noncomputable def dt42_2 : List Nat := 0 :: 22 :: 180 :: 0 :: 85 :: 27 :: 28 :: 79 :: 177 :: []
noncomputable def dt42_1 : List Nat := 3 :: 16 :: 20 :: 182 :: 0 :: 55 :: 61 :: 42 :: 180 :: 0 :: 32 :: 156 :: 0 :: 13 :: 42 :: 180 :: dt42_2
noncomputable def dt42_0 : List Nat := 42 :: 3 :: 42 :: 180 :: 0 :: 22 :: 180 :: 0 :: 82 :: 4 :: 100 :: 182 :: 0 :: 55 :: 60 :: 42 :: dt42_1
theorem dw42_0 : dn cX5_readSick 0 = dt42_0 := by decide +kernel
theorem dw42_1 : dn cX5_readSick 16 = dt42_1 := dn_w dw42_0 16 rfl
theorem dw42_2 : dn cX5_readSick 32 = dt42_2 := dn_w dw42_1 16 rfl
theorem dX5_readSick_0 : decode cX5_readSick 0 = .ok (.aload_n 0, 1) := dop_42 (dn_w dw42_0 0 rfl)
theorem dX5_readSick_1 : decode cX5_readSick 1 = .ok (.iconst 0, 1) := dop_3 (dn_w dw42_0 1 rfl)
theorem dX5_readSick_2 : decode cX5_readSick 2 = .ok (.aload_n 0, 1) := dop_42 (dn_w dw42_0 2 rfl)
theorem dX5_readSick_3 : decode cX5_readSick 3 = .ok (.getfield 22, 3) := dop_180 (dn_w dw42_0 3 rfl) rfl
theorem dX5_readSick_6 : decode cX5_readSick 6 = .ok (.getfield 82, 3) := dop_180 (dn_w dw42_0 6 rfl) rfl
theorem dX5_readSick_9 : decode cX5_readSick 9 = .ok (.iconst 1, 1) := dop_4 (dn_w dw42_0 9 rfl)
theorem dX5_readSick_10 : decode cX5_readSick 10 = .ok (.isub, 1) := dop_100 (dn_w dw42_0 10 rfl)
theorem dX5_readSick_11 : decode cX5_readSick 11 = .ok (.invokevirtual 55, 3) := dop_182 (dn_w dw42_0 11 rfl) rfl
theorem dX5_readSick_14 : decode cX5_readSick 14 = .ok (.istore_n 1, 1) := dop_60 (dn_w dw42_0 14 rfl)
theorem dX5_readSick_15 : decode cX5_readSick 15 = .ok (.aload_n 0, 1) := dop_42 (dn_w dw42_0 15 rfl)
theorem dX5_readSick_16 : decode cX5_readSick 16 = .ok (.iconst 0, 1) := dop_3 (dn_w dw42_1 0 rfl)
theorem dX5_readSick_17 : decode cX5_readSick 17 = .ok (.bipush 20, 2) := dop_16 (dn_w dw42_1 1 rfl) rfl
theorem dX5_readSick_19 : decode cX5_readSick 19 = .ok (.invokevirtual 55, 3) := dop_182 (dn_w dw42_1 3 rfl) rfl
theorem dX5_readSick_22 : decode cX5_readSick 22 = .ok (.istore_n 2, 1) := dop_61 (dn_w dw42_1 6 rfl)
theorem dX5_readSick_23 : decode cX5_readSick 23 = .ok (.aload_n 0, 1) := dop_42 (dn_w dw42_1 7 rfl)
theorem dX5_readSick_24 : decode cX5_readSick 24 = .ok (.getfield 32, 3) := dop_180 (dn_w dw42_1 8 rfl) rfl
theorem dX5_readSick_27 : decode cX5_readSick 27 = .ok (.ifCond .ge 13, 3) := dop_156 (dn_w dw42_1 11 rfl) rfl
theorem dX5_readSick_30 : decode cX5_readSick 30 = .ok (.aload_n 0, 1) := dop_42 (dn_w dw42_1 14 rfl)
theorem dX5_readSick_31 : decode cX5_readSick 31 = .ok (.getfield 22, 3) := dop_180 (dn_w dw42_1 15 rfl) rfl
theorem dX5_readSick_34 : decode cX5_readSick 34 = .ok (.getfield 85, 3) := dop_180 (dn_w dw42_2 2 rfl) rfl
theorem dX5_readSick_37 : decode cX5_readSick 37 = .ok (.iload_n 1, 1) := dop_27 (dn_w dw42_2 5 rfl)
theorem dX5_readSick_38 : decode cX5_readSick 38 = .ok (.iload_n 2, 1) := dop_28 (dn_w dw42_2 6 rfl)
theorem dX5_readSick_39 : decode cX5_readSick 39 = .ok (.iastore, 1) := dop_79 (dn_w dw42_2 7 rfl)
theorem dX5_readSick_40 : decode cX5_readSick 40 = .ok (.return_, 1) := dop_177 (dn_w dw42_2 8 rfl)
noncomputable def dt43_8 : List Nat := 0 :: 22 :: 27 :: 28 :: 29 :: 21 :: 4 :: 182 :: 0 :: 96 :: 87 :: 177 :: []
noncomputable def dt43_7 : List Nat := 16 :: 9 :: 182 :: 0 :: 55 :: 54 :: 4 :: 42 :: 180 :: 0 :: 32 :: 156 :: 0 :: 16 :: 42 :: 180 :: dt43_8
noncomputable def dt43_6 : List Nat := 45 :: 16 :: 7 :: 159 :: 0 :: 11 :: 42 :: 42 :: 180 :: 0 :: 29 :: 182 :: 0 :: 76 :: 42 :: 3 :: dt43_7
noncomputable def dt43_5 : List Nat := 0 :: 11 :: 42 :: 180 :: 0 :: 26 :: 51 :: 184 :: 0 :: 92 :: 153 :: 0 :: 29 :: 42 :: 182 :: 0 :: dt43_6
noncomputable def dt43_4 : List Nat := 3 :: 54 :: 4 :: 42 :: 180 :: 0 :: 26 :: 42 :: 180 :: 0 :: 15 :: 162 :: 0 :: 44 :: 42 :: 180 :: dt43_5
noncomputable def dt43_3 : List Nat := 0 :: 29 :: 182 :: 0 :: 76 :: 42 :: 3 :: 8 :: 182 :: 0 :: 55 :: 62 :: 42 :: 182 :: 0 :: 39 :: dt43_4
noncomputable def dt43_2 : List Nat := 182 :: 0 :: 55 :: 61 :: 42 :: 182 :: 0 :: 45 :: 16 :: 6 :: 159 :: 0 :: 11 :: 42 :: 42 :: 180 :: dt43_3
noncomputable def dt43_1 : List Nat := 161 :: 0 :: 12 :: 42 :: 42 :: 180 :: 0 :: 29 :: 182 :: 0 :: 76 :: 177 :: 42 :: 3 :: 16 :: 9 :: dt43_2
noncomputable def dt43_0 : List Nat := 27 :: 184 :: 0 :: 88 :: 153 :: 0 :: 15 :: 42 :: 180 :: 0 :: 22 :: 180 :: 0 :: 82 :: 16 :: 8 :: dt43_1
theorem dw43_0 : dn cX5_readChild 0 = dt43_0 := by decide +kernel
theorem dw43_1 : dn cX5_readChild 16 = dt43_1 := dn_w dw43_0 16 rfl
theorem dw43_2 : dn cX5_readChild 32 = dt43_2 := dn_w dw43_1 16 rfl
theorem dw43_3 : dn cX5_readChild 48 = dt43_3 := dn_w dw43_2 16 rfl
theorem dw43_4 : dn cX5_readChild 64 = dt43_4 := dn_w dw43_3 16 rfl
theorem dw43_5 : dn cX5_readChild 80 = dt43_5 := dn_w dw43_4 16 rfl
theorem dw43_6 : dn cX5_readChild 96 = dt43_6 := dn_w dw43_5 16 rfl
theorem dw43_7 : dn cX5_readChild 112 = dt43_7 := dn_w dw43_6 16 rfl
theorem dw43_8 : dn cX5_readChild 128 = dt43_8 := dn_w dw43_7 16 rfl
theorem dX5_readChild_0 : decode cX5_readChild 0 = .ok (.iload_n 1, 1) := dop_27 (dn_w dw43_0 0 rfl)
theorem dX5_readChild_1 : decode cX5_readChild 1 = .ok (.invokestatic 88, 3) := dop_184 (dn_w dw43_0 1 rfl) rfl
theorem dX5_readChild_4 : decode cX5_readChild 4 = .ok (.ifCond .eq 15, 3) := dop_153 (dn_w dw43_0 4 rfl) rfl
theorem dX5_readChild_7 : decode cX5_readChild 7 = .ok (.aload_n 0, 1) := dop_42 (dn_w dw43_0 7 rfl)
theorem dX5_readChild_8 : decode cX5_readChild 8 = .ok (.getfield 22, 3) := dop_180 (dn_w dw43_0 8 rfl) rfl
theorem dX5_readChild_11 : decode cX5_readChild 11 = .ok (.getfield 82, 3) := dop_180 (dn_w dw43_0 11 rfl) rfl
theorem dX5_readChild_14 : decode cX5_readChild 14 = .ok (.bipush 8, 2) := dop_16 (dn_w dw43_0 14 rfl) rfl
theorem dX5_readChild_16 : decode cX5_readChild 16 = .ok (.if_icmp .lt 12, 3) := dop_161 (dn_w dw43_1 0 rfl) rfl
theorem dX5_readChild_19 : decode cX5_readChild 19 = .ok (.aload_n 0, 1) := dop_42 (dn_w dw43_1 3 rfl)
theorem dX5_readChild_20 : decode cX5_readChild 20 = .ok (.aload_n 0, 1) := dop_42 (dn_w dw43_1 4 rfl)
theorem dX5_readChild_21 : decode cX5_readChild 21 = .ok (.getfield 29, 3) := dop_180 (dn_w dw43_1 5 rfl) rfl
theorem dX5_readChild_24 : decode cX5_readChild 24 = .ok (.invokevirtual 76, 3) := dop_182 (dn_w dw43_1 8 rfl) rfl
theorem dX5_readChild_27 : decode cX5_readChild 27 = .ok (.return_, 1) := dop_177 (dn_w dw43_1 11 rfl)
theorem dX5_readChild_28 : decode cX5_readChild 28 = .ok (.aload_n 0, 1) := dop_42 (dn_w dw43_1 12 rfl)
theorem dX5_readChild_29 : decode cX5_readChild 29 = .ok (.iconst 0, 1) := dop_3 (dn_w dw43_1 13 rfl)
theorem dX5_readChild_30 : decode cX5_readChild 30 = .ok (.bipush 9, 2) := dop_16 (dn_w dw43_1 14 rfl) rfl
theorem dX5_readChild_32 : decode cX5_readChild 32 = .ok (.invokevirtual 55, 3) := dop_182 (dn_w dw43_2 0 rfl) rfl
theorem dX5_readChild_35 : decode cX5_readChild 35 = .ok (.istore_n 2, 1) := dop_61 (dn_w dw43_2 3 rfl)
theorem dX5_readChild_36 : decode cX5_readChild 36 = .ok (.aload_n 0, 1) := dop_42 (dn_w dw43_2 4 rfl)
theorem dX5_readChild_37 : decode cX5_readChild 37 = .ok (.invokevirtual 45, 3) := dop_182 (dn_w dw43_2 5 rfl) rfl
theorem dX5_readChild_40 : decode cX5_readChild 40 = .ok (.bipush 6, 2) := dop_16 (dn_w dw43_2 8 rfl) rfl
theorem dX5_readChild_42 : decode cX5_readChild 42 = .ok (.if_icmp .eq 11, 3) := dop_159 (dn_w dw43_2 10 rfl) rfl
theorem dX5_readChild_45 : decode cX5_readChild 45 = .ok (.aload_n 0, 1) := dop_42 (dn_w dw43_2 13 rfl)
theorem dX5_readChild_46 : decode cX5_readChild 46 = .ok (.aload_n 0, 1) := dop_42 (dn_w dw43_2 14 rfl)
theorem dX5_readChild_47 : decode cX5_readChild 47 = .ok (.getfield 29, 3) := dop_180 (dn_w dw43_2 15 rfl) rfl
theorem dX5_readChild_50 : decode cX5_readChild 50 = .ok (.invokevirtual 76, 3) := dop_182 (dn_w dw43_3 2 rfl) rfl
theorem dX5_readChild_53 : decode cX5_readChild 53 = .ok (.aload_n 0, 1) := dop_42 (dn_w dw43_3 5 rfl)
theorem dX5_readChild_54 : decode cX5_readChild 54 = .ok (.iconst 0, 1) := dop_3 (dn_w dw43_3 6 rfl)
theorem dX5_readChild_55 : decode cX5_readChild 55 = .ok (.iconst 5, 1) := dop_8 (dn_w dw43_3 7 rfl)
theorem dX5_readChild_56 : decode cX5_readChild 56 = .ok (.invokevirtual 55, 3) := dop_182 (dn_w dw43_3 8 rfl) rfl
theorem dX5_readChild_59 : decode cX5_readChild 59 = .ok (.istore_n 3, 1) := dop_62 (dn_w dw43_3 11 rfl)
theorem dX5_readChild_60 : decode cX5_readChild 60 = .ok (.aload_n 0, 1) := dop_42 (dn_w dw43_3 12 rfl)
theorem dX5_readChild_61 : decode cX5_readChild 61 = .ok (.invokevirtual 39, 3) := dop_182 (dn_w dw43_3 13 rfl) rfl
theorem dX5_readChild_64 : decode cX5_readChild 64 = .ok (.iconst 0, 1) := dop_3 (dn_w dw43_4 0 rfl)
theorem dX5_readChild_65 : decode cX5_readChild 65 = .ok (.istore 4, 2) := dop_54 (dn_w dw43_4 1 rfl)
theorem dX5_readChild_67 : decode cX5_readChild 67 = .ok (.aload_n 0, 1) := dop_42 (dn_w dw43_4 3 rfl)
theorem dX5_readChild_68 : decode cX5_readChild 68 = .ok (.getfield 26, 3) := dop_180 (dn_w dw43_4 4 rfl) rfl
theorem dX5_readChild_71 : decode cX5_readChild 71 = .ok (.aload_n 0, 1) := dop_42 (dn_w dw43_4 7 rfl)
theorem dX5_readChild_72 : decode cX5_readChild 72 = .ok (.getfield 15, 3) := dop_180 (dn_w dw43_4 8 rfl) rfl
theorem dX5_readChild_75 : decode cX5_readChild 75 = .ok (.if_icmp .ge 44, 3) := dop_162 (dn_w dw43_4 11 rfl) rfl
theorem dX5_readChild_78 : decode cX5_readChild 78 = .ok (.aload_n 0, 1) := dop_42 (dn_w dw43_4 14 rfl)
theorem dX5_readChild_79 : decode cX5_readChild 79 = .ok (.getfield 11, 3) := dop_180 (dn_w dw43_4 15 rfl) rfl
theorem dX5_readChild_82 : decode cX5_readChild 82 = .ok (.aload_n 0, 1) := dop_42 (dn_w dw43_5 2 rfl)
theorem dX5_readChild_83 : decode cX5_readChild 83 = .ok (.getfield 26, 3) := dop_180 (dn_w dw43_5 3 rfl) rfl
theorem dX5_readChild_86 : decode cX5_readChild 86 = .ok (.baload, 1) := dop_51 (dn_w dw43_5 6 rfl)
theorem dX5_readChild_87 : decode cX5_readChild 87 = .ok (.invokestatic 92, 3) := dop_184 (dn_w dw43_5 7 rfl) rfl
theorem dX5_readChild_90 : decode cX5_readChild 90 = .ok (.ifCond .eq 29, 3) := dop_153 (dn_w dw43_5 10 rfl) rfl
theorem dX5_readChild_93 : decode cX5_readChild 93 = .ok (.aload_n 0, 1) := dop_42 (dn_w dw43_5 13 rfl)
theorem dX5_readChild_94 : decode cX5_readChild 94 = .ok (.invokevirtual 45, 3) := dop_182 (dn_w dw43_5 14 rfl) rfl
theorem dX5_readChild_97 : decode cX5_readChild 97 = .ok (.bipush 7, 2) := dop_16 (dn_w dw43_6 1 rfl) rfl
theorem dX5_readChild_99 : decode cX5_readChild 99 = .ok (.if_icmp .eq 11, 3) := dop_159 (dn_w dw43_6 3 rfl) rfl
theorem dX5_readChild_102 : decode cX5_readChild 102 = .ok (.aload_n 0, 1) := dop_42 (dn_w dw43_6 6 rfl)
theorem dX5_readChild_103 : decode cX5_readChild 103 = .ok (.aload_n 0, 1) := dop_42 (dn_w dw43_6 7 rfl)
theorem dX5_readChild_104 : decode cX5_readChild 104 = .ok (.getfield 29, 3) := dop_180 (dn_w dw43_6 8 rfl) rfl
theorem dX5_readChild_107 : decode cX5_readChild 107 = .ok (.invokevirtual 76, 3) := dop_182 (dn_w dw43_6 11 rfl) rfl
theorem dX5_readChild_110 : decode cX5_readChild 110 = .ok (.aload_n 0, 1) := dop_42 (dn_w dw43_6 14 rfl)
theorem dX5_readChild_111 : decode cX5_readChild 111 = .ok (.iconst 0, 1) := dop_3 (dn_w dw43_6 15 rfl)
theorem dX5_readChild_112 : decode cX5_readChild 112 = .ok (.bipush 9, 2) := dop_16 (dn_w dw43_7 0 rfl) rfl
theorem dX5_readChild_114 : decode cX5_readChild 114 = .ok (.invokevirtual 55, 3) := dop_182 (dn_w dw43_7 2 rfl) rfl
theorem dX5_readChild_117 : decode cX5_readChild 117 = .ok (.istore 4, 2) := dop_54 (dn_w dw43_7 5 rfl)
theorem dX5_readChild_119 : decode cX5_readChild 119 = .ok (.aload_n 0, 1) := dop_42 (dn_w dw43_7 7 rfl)
theorem dX5_readChild_120 : decode cX5_readChild 120 = .ok (.getfield 32, 3) := dop_180 (dn_w dw43_7 8 rfl) rfl
theorem dX5_readChild_123 : decode cX5_readChild 123 = .ok (.ifCond .ge 16, 3) := dop_156 (dn_w dw43_7 11 rfl) rfl
theorem dX5_readChild_126 : decode cX5_readChild 126 = .ok (.aload_n 0, 1) := dop_42 (dn_w dw43_7 14 rfl)
theorem dX5_readChild_127 : decode cX5_readChild 127 = .ok (.getfield 22, 3) := dop_180 (dn_w dw43_7 15 rfl) rfl
theorem dX5_readChild_130 : decode cX5_readChild 130 = .ok (.iload_n 1, 1) := dop_27 (dn_w dw43_8 2 rfl)
theorem dX5_readChild_131 : decode cX5_readChild 131 = .ok (.iload_n 2, 1) := dop_28 (dn_w dw43_8 3 rfl)
theorem dX5_readChild_132 : decode cX5_readChild 132 = .ok (.iload_n 3, 1) := dop_29 (dn_w dw43_8 4 rfl)
theorem dX5_readChild_133 : decode cX5_readChild 133 = .ok (.iload 4, 2) := dop_21 (dn_w dw43_8 5 rfl)
theorem dX5_readChild_135 : decode cX5_readChild 135 = .ok (.invokevirtual 96, 3) := dop_182 (dn_w dw43_8 7 rfl) rfl
theorem dX5_readChild_138 : decode cX5_readChild 138 = .ok (.pop, 1) := dop_87 (dn_w dw43_8 10 rfl)
theorem dX5_readChild_139 : decode cX5_readChild 139 = .ok (.return_, 1) := dop_177 (dn_w dw43_8 11 rfl)
noncomputable def dt44_0 : List Nat := 42 :: 180 :: 0 :: 32 :: 156 :: 0 :: 8 :: 42 :: 27 :: 181 :: 0 :: 32 :: 177 :: []
theorem dw44_0 : dn cX5_failAt 0 = dt44_0 := by decide +kernel
theorem dX5_failAt_0 : decode cX5_failAt 0 = .ok (.aload_n 0, 1) := dop_42 (dn_w dw44_0 0 rfl)
theorem dX5_failAt_1 : decode cX5_failAt 1 = .ok (.getfield 32, 3) := dop_180 (dn_w dw44_0 1 rfl) rfl
theorem dX5_failAt_4 : decode cX5_failAt 4 = .ok (.ifCond .ge 8, 3) := dop_156 (dn_w dw44_0 4 rfl) rfl
theorem dX5_failAt_7 : decode cX5_failAt 7 = .ok (.aload_n 0, 1) := dop_42 (dn_w dw44_0 7 rfl)
theorem dX5_failAt_8 : decode cX5_failAt 8 = .ok (.iload_n 1, 1) := dop_27 (dn_w dw44_0 8 rfl)
theorem dX5_failAt_9 : decode cX5_failAt 9 = .ok (.putfield 32, 3) := dop_181 (dn_w dw44_0 9 rfl) rfl
theorem dX5_failAt_12 : decode cX5_failAt 12 = .ok (.return_, 1) := dop_177 (dn_w dw44_0 12 rfl)
noncomputable def dt45_2 : List Nat := 181 :: 0 :: 26 :: 167 :: 255 :: 221 :: 177 :: []
noncomputable def dt45_1 : List Nat := 180 :: 0 :: 26 :: 51 :: 16 :: 32 :: 160 :: 0 :: 16 :: 42 :: 89 :: 180 :: 0 :: 26 :: 4 :: 96 :: dt45_2
noncomputable def dt45_0 : List Nat := 42 :: 180 :: 0 :: 26 :: 42 :: 180 :: 0 :: 15 :: 162 :: 0 :: 30 :: 42 :: 180 :: 0 :: 11 :: 42 :: dt45_1
theorem dw45_0 : dn cX5_skipBlanks 0 = dt45_0 := by decide +kernel
theorem dw45_1 : dn cX5_skipBlanks 16 = dt45_1 := dn_w dw45_0 16 rfl
theorem dw45_2 : dn cX5_skipBlanks 32 = dt45_2 := dn_w dw45_1 16 rfl
theorem dX5_skipBlanks_0 : decode cX5_skipBlanks 0 = .ok (.aload_n 0, 1) := dop_42 (dn_w dw45_0 0 rfl)
theorem dX5_skipBlanks_1 : decode cX5_skipBlanks 1 = .ok (.getfield 26, 3) := dop_180 (dn_w dw45_0 1 rfl) rfl
theorem dX5_skipBlanks_4 : decode cX5_skipBlanks 4 = .ok (.aload_n 0, 1) := dop_42 (dn_w dw45_0 4 rfl)
theorem dX5_skipBlanks_5 : decode cX5_skipBlanks 5 = .ok (.getfield 15, 3) := dop_180 (dn_w dw45_0 5 rfl) rfl
theorem dX5_skipBlanks_8 : decode cX5_skipBlanks 8 = .ok (.if_icmp .ge 30, 3) := dop_162 (dn_w dw45_0 8 rfl) rfl
theorem dX5_skipBlanks_11 : decode cX5_skipBlanks 11 = .ok (.aload_n 0, 1) := dop_42 (dn_w dw45_0 11 rfl)
theorem dX5_skipBlanks_12 : decode cX5_skipBlanks 12 = .ok (.getfield 11, 3) := dop_180 (dn_w dw45_0 12 rfl) rfl
theorem dX5_skipBlanks_15 : decode cX5_skipBlanks 15 = .ok (.aload_n 0, 1) := dop_42 (dn_w dw45_0 15 rfl)
theorem dX5_skipBlanks_16 : decode cX5_skipBlanks 16 = .ok (.getfield 26, 3) := dop_180 (dn_w dw45_1 0 rfl) rfl
theorem dX5_skipBlanks_19 : decode cX5_skipBlanks 19 = .ok (.baload, 1) := dop_51 (dn_w dw45_1 3 rfl)
theorem dX5_skipBlanks_20 : decode cX5_skipBlanks 20 = .ok (.bipush 32, 2) := dop_16 (dn_w dw45_1 4 rfl) rfl
theorem dX5_skipBlanks_22 : decode cX5_skipBlanks 22 = .ok (.if_icmp .ne 16, 3) := dop_160 (dn_w dw45_1 6 rfl) rfl
theorem dX5_skipBlanks_25 : decode cX5_skipBlanks 25 = .ok (.aload_n 0, 1) := dop_42 (dn_w dw45_1 9 rfl)
theorem dX5_skipBlanks_26 : decode cX5_skipBlanks 26 = .ok (.dup, 1) := dop_89 (dn_w dw45_1 10 rfl)
theorem dX5_skipBlanks_27 : decode cX5_skipBlanks 27 = .ok (.getfield 26, 3) := dop_180 (dn_w dw45_1 11 rfl) rfl
theorem dX5_skipBlanks_30 : decode cX5_skipBlanks 30 = .ok (.iconst 1, 1) := dop_4 (dn_w dw45_1 14 rfl)
theorem dX5_skipBlanks_31 : decode cX5_skipBlanks 31 = .ok (.iadd, 1) := dop_96 (dn_w dw45_1 15 rfl)
theorem dX5_skipBlanks_32 : decode cX5_skipBlanks 32 = .ok (.putfield 26, 3) := dop_181 (dn_w dw45_2 0 rfl) rfl
theorem dX5_skipBlanks_35 : decode cX5_skipBlanks 35 = .ok (.goto (-35), 3) := dop_167 (dn_w dw45_2 3 rfl) rfl
theorem dX5_skipBlanks_38 : decode cX5_skipBlanks 38 = .ok (.return_, 1) := dop_177 (dn_w dw45_2 6 rfl)
noncomputable def dt46_8 : List Nat := 0 :: 32 :: 156 :: 0 :: 7 :: 29 :: 167 :: 0 :: 4 :: 3 :: 172 :: []
noncomputable def dt46_7 : List Nat := 8 :: 29 :: 28 :: 164 :: 0 :: 11 :: 42 :: 42 :: 180 :: 0 :: 29 :: 182 :: 0 :: 76 :: 42 :: 180 :: dt46_8
noncomputable def dt46_6 : List Nat := 180 :: 0 :: 26 :: 42 :: 180 :: 0 :: 29 :: 5 :: 96 :: 163 :: 0 :: 13 :: 29 :: 27 :: 161 :: 0 :: dt46_7
noncomputable def dt46_5 : List Nat := 26 :: 167 :: 255 :: 189 :: 42 :: 180 :: 0 :: 26 :: 42 :: 180 :: 0 :: 29 :: 159 :: 0 :: 26 :: 42 :: dt46_6
noncomputable def dt46_4 : List Nat := 26 :: 51 :: 16 :: 48 :: 100 :: 96 :: 62 :: 42 :: 89 :: 180 :: 0 :: 26 :: 4 :: 96 :: 181 :: 0 :: dt46_5
noncomputable def dt46_3 : List Nat := 16 :: 57 :: 163 :: 0 :: 34 :: 29 :: 16 :: 10 :: 104 :: 42 :: 180 :: 0 :: 11 :: 42 :: 180 :: 0 :: dt46_4
noncomputable def dt46_2 : List Nat := 26 :: 51 :: 16 :: 48 :: 161 :: 0 :: 48 :: 42 :: 180 :: 0 :: 11 :: 42 :: 180 :: 0 :: 26 :: 51 :: dt46_3
noncomputable def dt46_1 : List Nat := 0 :: 26 :: 42 :: 180 :: 0 :: 15 :: 162 :: 0 :: 62 :: 42 :: 180 :: 0 :: 11 :: 42 :: 180 :: 0 :: dt46_2
noncomputable def dt46_0 : List Nat := 42 :: 182 :: 0 :: 39 :: 42 :: 42 :: 180 :: 0 :: 26 :: 181 :: 0 :: 29 :: 3 :: 62 :: 42 :: 180 :: dt46_1
theorem dw46_0 : dn cX5_nextNumber 0 = dt46_0 := by decide +kernel
theorem dw46_1 : dn cX5_nextNumber 16 = dt46_1 := dn_w dw46_0 16 rfl
theorem dw46_2 : dn cX5_nextNumber 32 = dt46_2 := dn_w dw46_1 16 rfl
theorem dw46_3 : dn cX5_nextNumber 48 = dt46_3 := dn_w dw46_2 16 rfl
theorem dw46_4 : dn cX5_nextNumber 64 = dt46_4 := dn_w dw46_3 16 rfl
theorem dw46_5 : dn cX5_nextNumber 80 = dt46_5 := dn_w dw46_4 16 rfl
theorem dw46_6 : dn cX5_nextNumber 96 = dt46_6 := dn_w dw46_5 16 rfl
theorem dw46_7 : dn cX5_nextNumber 112 = dt46_7 := dn_w dw46_6 16 rfl
theorem dw46_8 : dn cX5_nextNumber 128 = dt46_8 := dn_w dw46_7 16 rfl
theorem dX5_nextNumber_0 : decode cX5_nextNumber 0 = .ok (.aload_n 0, 1) := dop_42 (dn_w dw46_0 0 rfl)
theorem dX5_nextNumber_1 : decode cX5_nextNumber 1 = .ok (.invokevirtual 39, 3) := dop_182 (dn_w dw46_0 1 rfl) rfl
theorem dX5_nextNumber_4 : decode cX5_nextNumber 4 = .ok (.aload_n 0, 1) := dop_42 (dn_w dw46_0 4 rfl)
theorem dX5_nextNumber_5 : decode cX5_nextNumber 5 = .ok (.aload_n 0, 1) := dop_42 (dn_w dw46_0 5 rfl)
theorem dX5_nextNumber_6 : decode cX5_nextNumber 6 = .ok (.getfield 26, 3) := dop_180 (dn_w dw46_0 6 rfl) rfl
theorem dX5_nextNumber_9 : decode cX5_nextNumber 9 = .ok (.putfield 29, 3) := dop_181 (dn_w dw46_0 9 rfl) rfl
theorem dX5_nextNumber_12 : decode cX5_nextNumber 12 = .ok (.iconst 0, 1) := dop_3 (dn_w dw46_0 12 rfl)
theorem dX5_nextNumber_13 : decode cX5_nextNumber 13 = .ok (.istore_n 3, 1) := dop_62 (dn_w dw46_0 13 rfl)
theorem dX5_nextNumber_14 : decode cX5_nextNumber 14 = .ok (.aload_n 0, 1) := dop_42 (dn_w dw46_0 14 rfl)
theorem dX5_nextNumber_15 : decode cX5_nextNumber 15 = .ok (.getfield 26, 3) := dop_180 (dn_w dw46_0 15 rfl) rfl
theorem dX5_nextNumber_18 : decode cX5_nextNumber 18 = .ok (.aload_n 0, 1) := dop_42 (dn_w dw46_1 2 rfl)
theorem dX5_nextNumber_19 : decode cX5_nextNumber 19 = .ok (.getfield 15, 3) := dop_180 (dn_w dw46_1 3 rfl) rfl
theorem dX5_nextNumber_22 : decode cX5_nextNumber 22 = .ok (.if_icmp .ge 62, 3) := dop_162 (dn_w dw46_1 6 rfl) rfl
theorem dX5_nextNumber_25 : decode cX5_nextNumber 25 = .ok (.aload_n 0, 1) := dop_42 (dn_w dw46_1 9 rfl)
theorem dX5_nextNumber_26 : decode cX5_nextNumber 26 = .ok (.getfield 11, 3) := dop_180 (dn_w dw46_1 10 rfl) rfl
theorem dX5_nextNumber_29 : decode cX5_nextNumber 29 = .ok (.aload_n 0, 1) := dop_42 (dn_w dw46_1 13 rfl)
theorem dX5_nextNumber_30 : decode cX5_nextNumber 30 = .ok (.getfield 26, 3) := dop_180 (dn_w dw46_1 14 rfl) rfl
theorem dX5_nextNumber_33 : decode cX5_nextNumber 33 = .ok (.baload, 1) := dop_51 (dn_w dw46_2 1 rfl)
theorem dX5_nextNumber_34 : decode cX5_nextNumber 34 = .ok (.bipush 48, 2) := dop_16 (dn_w dw46_2 2 rfl) rfl
theorem dX5_nextNumber_36 : decode cX5_nextNumber 36 = .ok (.if_icmp .lt 48, 3) := dop_161 (dn_w dw46_2 4 rfl) rfl
theorem dX5_nextNumber_39 : decode cX5_nextNumber 39 = .ok (.aload_n 0, 1) := dop_42 (dn_w dw46_2 7 rfl)
theorem dX5_nextNumber_40 : decode cX5_nextNumber 40 = .ok (.getfield 11, 3) := dop_180 (dn_w dw46_2 8 rfl) rfl
theorem dX5_nextNumber_43 : decode cX5_nextNumber 43 = .ok (.aload_n 0, 1) := dop_42 (dn_w dw46_2 11 rfl)
theorem dX5_nextNumber_44 : decode cX5_nextNumber 44 = .ok (.getfield 26, 3) := dop_180 (dn_w dw46_2 12 rfl) rfl
theorem dX5_nextNumber_47 : decode cX5_nextNumber 47 = .ok (.baload, 1) := dop_51 (dn_w dw46_2 15 rfl)
theorem dX5_nextNumber_48 : decode cX5_nextNumber 48 = .ok (.bipush 57, 2) := dop_16 (dn_w dw46_3 0 rfl) rfl
theorem dX5_nextNumber_50 : decode cX5_nextNumber 50 = .ok (.if_icmp .gt 34, 3) := dop_163 (dn_w dw46_3 2 rfl) rfl
theorem dX5_nextNumber_53 : decode cX5_nextNumber 53 = .ok (.iload_n 3, 1) := dop_29 (dn_w dw46_3 5 rfl)
theorem dX5_nextNumber_54 : decode cX5_nextNumber 54 = .ok (.bipush 10, 2) := dop_16 (dn_w dw46_3 6 rfl) rfl
theorem dX5_nextNumber_56 : decode cX5_nextNumber 56 = .ok (.imul, 1) := dop_104 (dn_w dw46_3 8 rfl)
theorem dX5_nextNumber_57 : decode cX5_nextNumber 57 = .ok (.aload_n 0, 1) := dop_42 (dn_w dw46_3 9 rfl)
theorem dX5_nextNumber_58 : decode cX5_nextNumber 58 = .ok (.getfield 11, 3) := dop_180 (dn_w dw46_3 10 rfl) rfl
theorem dX5_nextNumber_61 : decode cX5_nextNumber 61 = .ok (.aload_n 0, 1) := dop_42 (dn_w dw46_3 13 rfl)
theorem dX5_nextNumber_62 : decode cX5_nextNumber 62 = .ok (.getfield 26, 3) := dop_180 (dn_w dw46_3 14 rfl) rfl
theorem dX5_nextNumber_65 : decode cX5_nextNumber 65 = .ok (.baload, 1) := dop_51 (dn_w dw46_4 1 rfl)
theorem dX5_nextNumber_66 : decode cX5_nextNumber 66 = .ok (.bipush 48, 2) := dop_16 (dn_w dw46_4 2 rfl) rfl
theorem dX5_nextNumber_68 : decode cX5_nextNumber 68 = .ok (.isub, 1) := dop_100 (dn_w dw46_4 4 rfl)
theorem dX5_nextNumber_69 : decode cX5_nextNumber 69 = .ok (.iadd, 1) := dop_96 (dn_w dw46_4 5 rfl)
theorem dX5_nextNumber_70 : decode cX5_nextNumber 70 = .ok (.istore_n 3, 1) := dop_62 (dn_w dw46_4 6 rfl)
theorem dX5_nextNumber_71 : decode cX5_nextNumber 71 = .ok (.aload_n 0, 1) := dop_42 (dn_w dw46_4 7 rfl)
theorem dX5_nextNumber_72 : decode cX5_nextNumber 72 = .ok (.dup, 1) := dop_89 (dn_w dw46_4 8 rfl)
theorem dX5_nextNumber_73 : decode cX5_nextNumber 73 = .ok (.getfield 26, 3) := dop_180 (dn_w dw46_4 9 rfl) rfl
theorem dX5_nextNumber_76 : decode cX5_nextNumber 76 = .ok (.iconst 1, 1) := dop_4 (dn_w dw46_4 12 rfl)
theorem dX5_nextNumber_77 : decode cX5_nextNumber 77 = .ok (.iadd, 1) := dop_96 (dn_w dw46_4 13 rfl)
theorem dX5_nextNumber_78 : decode cX5_nextNumber 78 = .ok (.putfield 26, 3) := dop_181 (dn_w dw46_4 14 rfl) rfl
theorem dX5_nextNumber_81 : decode cX5_nextNumber 81 = .ok (.goto (-67), 3) := dop_167 (dn_w dw46_5 1 rfl) rfl
theorem dX5_nextNumber_84 : decode cX5_nextNumber 84 = .ok (.aload_n 0, 1) := dop_42 (dn_w dw46_5 4 rfl)
theorem dX5_nextNumber_85 : decode cX5_nextNumber 85 = .ok (.getfield 26, 3) := dop_180 (dn_w dw46_5 5 rfl) rfl
theorem dX5_nextNumber_88 : decode cX5_nextNumber 88 = .ok (.aload_n 0, 1) := dop_42 (dn_w dw46_5 8 rfl)
theorem dX5_nextNumber_89 : decode cX5_nextNumber 89 = .ok (.getfield 29, 3) := dop_180 (dn_w dw46_5 9 rfl) rfl
theorem dX5_nextNumber_92 : decode cX5_nextNumber 92 = .ok (.if_icmp .eq 26, 3) := dop_159 (dn_w dw46_5 12 rfl) rfl
theorem dX5_nextNumber_95 : decode cX5_nextNumber 95 = .ok (.aload_n 0, 1) := dop_42 (dn_w dw46_5 15 rfl)
theorem dX5_nextNumber_96 : decode cX5_nextNumber 96 = .ok (.getfield 26, 3) := dop_180 (dn_w dw46_6 0 rfl) rfl
theorem dX5_nextNumber_99 : decode cX5_nextNumber 99 = .ok (.aload_n 0, 1) := dop_42 (dn_w dw46_6 3 rfl)
theorem dX5_nextNumber_100 : decode cX5_nextNumber 100 = .ok (.getfield 29, 3) := dop_180 (dn_w dw46_6 4 rfl) rfl
theorem dX5_nextNumber_103 : decode cX5_nextNumber 103 = .ok (.iconst 2, 1) := dop_5 (dn_w dw46_6 7 rfl)
theorem dX5_nextNumber_104 : decode cX5_nextNumber 104 = .ok (.iadd, 1) := dop_96 (dn_w dw46_6 8 rfl)
theorem dX5_nextNumber_105 : decode cX5_nextNumber 105 = .ok (.if_icmp .gt 13, 3) := dop_163 (dn_w dw46_6 9 rfl) rfl
theorem dX5_nextNumber_108 : decode cX5_nextNumber 108 = .ok (.iload_n 3, 1) := dop_29 (dn_w dw46_6 12 rfl)
theorem dX5_nextNumber_109 : decode cX5_nextNumber 109 = .ok (.iload_n 1, 1) := dop_27 (dn_w dw46_6 13 rfl)
theorem dX5_nextNumber_110 : decode cX5_nextNumber 110 = .ok (.if_icmp .lt 8, 3) := dop_161 (dn_w dw46_6 14 rfl) rfl
theorem dX5_nextNumber_113 : decode cX5_nextNumber 113 = .ok (.iload_n 3, 1) := dop_29 (dn_w dw46_7 1 rfl)
theorem dX5_nextNumber_114 : decode cX5_nextNumber 114 = .ok (.iload_n 2, 1) := dop_28 (dn_w dw46_7 2 rfl)
theorem dX5_nextNumber_115 : decode cX5_nextNumber 115 = .ok (.if_icmp .le 11, 3) := dop_164 (dn_w dw46_7 3 rfl) rfl
theorem dX5_nextNumber_118 : decode cX5_nextNumber 118 = .ok (.aload_n 0, 1) := dop_42 (dn_w dw46_7 6 rfl)
theorem dX5_nextNumber_119 : decode cX5_nextNumber 119 = .ok (.aload_n 0, 1) := dop_42 (dn_w dw46_7 7 rfl)
theorem dX5_nextNumber_120 : decode cX5_nextNumber 120 = .ok (.getfield 29, 3) := dop_180 (dn_w dw46_7 8 rfl) rfl
theorem dX5_nextNumber_123 : decode cX5_nextNumber 123 = .ok (.invokevirtual 76, 3) := dop_182 (dn_w dw46_7 11 rfl) rfl
theorem dX5_nextNumber_126 : decode cX5_nextNumber 126 = .ok (.aload_n 0, 1) := dop_42 (dn_w dw46_7 14 rfl)
theorem dX5_nextNumber_127 : decode cX5_nextNumber 127 = .ok (.getfield 32, 3) := dop_180 (dn_w dw46_7 15 rfl) rfl
theorem dX5_nextNumber_130 : decode cX5_nextNumber 130 = .ok (.ifCond .ge 7, 3) := dop_156 (dn_w dw46_8 2 rfl) rfl
theorem dX5_nextNumber_133 : decode cX5_nextNumber 133 = .ok (.iload_n 3, 1) := dop_29 (dn_w dw46_8 5 rfl)
theorem dX5_nextNumber_134 : decode cX5_nextNumber 134 = .ok (.goto 4, 3) := dop_167 (dn_w dw46_8 6 rfl) rfl
theorem dX5_nextNumber_137 : decode cX5_nextNumber 137 = .ok (.iconst 0, 1) := dop_3 (dn_w dw46_8 9 rfl)
theorem dX5_nextNumber_138 : decode cX5_nextNumber 138 = .ok (.ireturn, 1) := dop_172 (dn_w dw46_8 10 rfl)
noncomputable def dt47_4 : List Nat := 182 :: 0 :: 104 :: 153 :: 0 :: 5 :: 27 :: 172 :: 132 :: 1 :: 1 :: 167 :: 255 :: 234 :: 2 :: 172 :: []
noncomputable def dt47_3 : List Nat := 167 :: 255 :: 220 :: 3 :: 60 :: 27 :: 16 :: 13 :: 162 :: 0 :: 22 :: 42 :: 27 :: 184 :: 0 :: 100 :: dt47_4
noncomputable def dt47_2 : List Nat := 184 :: 0 :: 92 :: 153 :: 0 :: 16 :: 42 :: 89 :: 180 :: 0 :: 26 :: 4 :: 96 :: 181 :: 0 :: 26 :: dt47_3
noncomputable def dt47_1 : List Nat := 42 :: 180 :: 0 :: 15 :: 162 :: 0 :: 31 :: 42 :: 180 :: 0 :: 11 :: 42 :: 180 :: 0 :: 26 :: 51 :: dt47_2
noncomputable def dt47_0 : List Nat := 42 :: 182 :: 0 :: 39 :: 42 :: 42 :: 180 :: 0 :: 26 :: 181 :: 0 :: 29 :: 42 :: 180 :: 0 :: 26 :: dt47_1
theorem dw47_0 : dn cX5_nextWord 0 = dt47_0 := by decide +kernel
theorem dw47_1 : dn cX5_nextWord 16 = dt47_1 := dn_w dw47_0 16 rfl
theorem dw47_2 : dn cX5_nextWord 32 = dt47_2 := dn_w dw47_1 16 rfl
theorem dw47_3 : dn cX5_nextWord 48 = dt47_3 := dn_w dw47_2 16 rfl
theorem dw47_4 : dn cX5_nextWord 64 = dt47_4 := dn_w dw47_3 16 rfl
theorem dX5_nextWord_0 : decode cX5_nextWord 0 = .ok (.aload_n 0, 1) := dop_42 (dn_w dw47_0 0 rfl)
theorem dX5_nextWord_1 : decode cX5_nextWord 1 = .ok (.invokevirtual 39, 3) := dop_182 (dn_w dw47_0 1 rfl) rfl
theorem dX5_nextWord_4 : decode cX5_nextWord 4 = .ok (.aload_n 0, 1) := dop_42 (dn_w dw47_0 4 rfl)
theorem dX5_nextWord_5 : decode cX5_nextWord 5 = .ok (.aload_n 0, 1) := dop_42 (dn_w dw47_0 5 rfl)
theorem dX5_nextWord_6 : decode cX5_nextWord 6 = .ok (.getfield 26, 3) := dop_180 (dn_w dw47_0 6 rfl) rfl
theorem dX5_nextWord_9 : decode cX5_nextWord 9 = .ok (.putfield 29, 3) := dop_181 (dn_w dw47_0 9 rfl) rfl
theorem dX5_nextWord_12 : decode cX5_nextWord 12 = .ok (.aload_n 0, 1) := dop_42 (dn_w dw47_0 12 rfl)
theorem dX5_nextWord_13 : decode cX5_nextWord 13 = .ok (.getfield 26, 3) := dop_180 (dn_w dw47_0 13 rfl) rfl
theorem dX5_nextWord_16 : decode cX5_nextWord 16 = .ok (.aload_n 0, 1) := dop_42 (dn_w dw47_1 0 rfl)
theorem dX5_nextWord_17 : decode cX5_nextWord 17 = .ok (.getfield 15, 3) := dop_180 (dn_w dw47_1 1 rfl) rfl
theorem dX5_nextWord_20 : decode cX5_nextWord 20 = .ok (.if_icmp .ge 31, 3) := dop_162 (dn_w dw47_1 4 rfl) rfl
theorem dX5_nextWord_23 : decode cX5_nextWord 23 = .ok (.aload_n 0, 1) := dop_42 (dn_w dw47_1 7 rfl)
theorem dX5_nextWord_24 : decode cX5_nextWord 24 = .ok (.getfield 11, 3) := dop_180 (dn_w dw47_1 8 rfl) rfl
theorem dX5_nextWord_27 : decode cX5_nextWord 27 = .ok (.aload_n 0, 1) := dop_42 (dn_w dw47_1 11 rfl)
theorem dX5_nextWord_28 : decode cX5_nextWord 28 = .ok (.getfield 26, 3) := dop_180 (dn_w dw47_1 12 rfl) rfl
theorem dX5_nextWord_31 : decode cX5_nextWord 31 = .ok (.baload, 1) := dop_51 (dn_w dw47_1 15 rfl)
theorem dX5_nextWord_32 : decode cX5_nextWord 32 = .ok (.invokestatic 92, 3) := dop_184 (dn_w dw47_2 0 rfl) rfl
theorem dX5_nextWord_35 : decode cX5_nextWord 35 = .ok (.ifCond .eq 16, 3) := dop_153 (dn_w dw47_2 3 rfl) rfl
theorem dX5_nextWord_38 : decode cX5_nextWord 38 = .ok (.aload_n 0, 1) := dop_42 (dn_w dw47_2 6 rfl)
theorem dX5_nextWord_39 : decode cX5_nextWord 39 = .ok (.dup, 1) := dop_89 (dn_w dw47_2 7 rfl)
theorem dX5_nextWord_40 : decode cX5_nextWord 40 = .ok (.getfield 26, 3) := dop_180 (dn_w dw47_2 8 rfl) rfl
theorem dX5_nextWord_43 : decode cX5_nextWord 43 = .ok (.iconst 1, 1) := dop_4 (dn_w dw47_2 11 rfl)
theorem dX5_nextWord_44 : decode cX5_nextWord 44 = .ok (.iadd, 1) := dop_96 (dn_w dw47_2 12 rfl)
theorem dX5_nextWord_45 : decode cX5_nextWord 45 = .ok (.putfield 26, 3) := dop_181 (dn_w dw47_2 13 rfl) rfl
theorem dX5_nextWord_48 : decode cX5_nextWord 48 = .ok (.goto (-36), 3) := dop_167 (dn_w dw47_3 0 rfl) rfl
theorem dX5_nextWord_51 : decode cX5_nextWord 51 = .ok (.iconst 0, 1) := dop_3 (dn_w dw47_3 3 rfl)
theorem dX5_nextWord_52 : decode cX5_nextWord 52 = .ok (.istore_n 1, 1) := dop_60 (dn_w dw47_3 4 rfl)
theorem dX5_nextWord_53 : decode cX5_nextWord 53 = .ok (.iload_n 1, 1) := dop_27 (dn_w dw47_3 5 rfl)
theorem dX5_nextWord_54 : decode cX5_nextWord 54 = .ok (.bipush 13, 2) := dop_16 (dn_w dw47_3 6 rfl) rfl
theorem dX5_nextWord_56 : decode cX5_nextWord 56 = .ok (.if_icmp .ge 22, 3) := dop_162 (dn_w dw47_3 8 rfl) rfl
theorem dX5_nextWord_59 : decode cX5_nextWord 59 = .ok (.aload_n 0, 1) := dop_42 (dn_w dw47_3 11 rfl)
theorem dX5_nextWord_60 : decode cX5_nextWord 60 = .ok (.iload_n 1, 1) := dop_27 (dn_w dw47_3 12 rfl)
theorem dX5_nextWord_61 : decode cX5_nextWord 61 = .ok (.invokestatic 100, 3) := dop_184 (dn_w dw47_3 13 rfl) rfl
theorem dX5_nextWord_64 : decode cX5_nextWord 64 = .ok (.invokevirtual 104, 3) := dop_182 (dn_w dw47_4 0 rfl) rfl
theorem dX5_nextWord_67 : decode cX5_nextWord 67 = .ok (.ifCond .eq 5, 3) := dop_153 (dn_w dw47_4 3 rfl) rfl
theorem dX5_nextWord_70 : decode cX5_nextWord 70 = .ok (.iload_n 1, 1) := dop_27 (dn_w dw47_4 6 rfl)
theorem dX5_nextWord_71 : decode cX5_nextWord 71 = .ok (.ireturn, 1) := dop_172 (dn_w dw47_4 7 rfl)
theorem dX5_nextWord_72 : decode cX5_nextWord 72 = .ok (.iinc 1 1, 3) := dop_132 (dn_w dw47_4 8 rfl) rfl
theorem dX5_nextWord_75 : decode cX5_nextWord 75 = .ok (.goto (-22), 3) := dop_167 (dn_w dw47_4 11 rfl) rfl
theorem dX5_nextWord_78 : decode cX5_nextWord 78 = .ok (.iconst (-1), 1) := dop_2 (dn_w dw47_4 14 rfl)
theorem dX5_nextWord_79 : decode cX5_nextWord 79 = .ok (.ireturn, 1) := dop_172 (dn_w dw47_4 15 rfl)
noncomputable def dt48_3 : List Nat := 132 :: 3 :: 1 :: 167 :: 255 :: 227 :: 4 :: 172 :: []
noncomputable def dt48_2 : List Nat := 180 :: 0 :: 29 :: 29 :: 96 :: 51 :: 43 :: 29 :: 182 :: 0 :: 113 :: 159 :: 0 :: 5 :: 3 :: 172 :: dt48_3
noncomputable def dt48_1 : List Nat := 0 :: 5 :: 3 :: 172 :: 3 :: 62 :: 29 :: 28 :: 162 :: 0 :: 30 :: 42 :: 180 :: 0 :: 11 :: 42 :: dt48_2
noncomputable def dt48_0 : List Nat := 43 :: 182 :: 0 :: 108 :: 61 :: 42 :: 180 :: 0 :: 26 :: 42 :: 180 :: 0 :: 29 :: 100 :: 28 :: 159 :: dt48_1
theorem dw48_0 : dn cX5_isMarked 0 = dt48_0 := by decide +kernel
theorem dw48_1 : dn cX5_isMarked 16 = dt48_1 := dn_w dw48_0 16 rfl
theorem dw48_2 : dn cX5_isMarked 32 = dt48_2 := dn_w dw48_1 16 rfl
theorem dw48_3 : dn cX5_isMarked 48 = dt48_3 := dn_w dw48_2 16 rfl
theorem dX5_isMarked_0 : decode cX5_isMarked 0 = .ok (.aload_n 1, 1) := dop_43 (dn_w dw48_0 0 rfl)
theorem dX5_isMarked_1 : decode cX5_isMarked 1 = .ok (.invokevirtual 108, 3) := dop_182 (dn_w dw48_0 1 rfl) rfl
theorem dX5_isMarked_4 : decode cX5_isMarked 4 = .ok (.istore_n 2, 1) := dop_61 (dn_w dw48_0 4 rfl)
theorem dX5_isMarked_5 : decode cX5_isMarked 5 = .ok (.aload_n 0, 1) := dop_42 (dn_w dw48_0 5 rfl)
theorem dX5_isMarked_6 : decode cX5_isMarked 6 = .ok (.getfield 26, 3) := dop_180 (dn_w dw48_0 6 rfl) rfl
theorem dX5_isMarked_9 : decode cX5_isMarked 9 = .ok (.aload_n 0, 1) := dop_42 (dn_w dw48_0 9 rfl)
theorem dX5_isMarked_10 : decode cX5_isMarked 10 = .ok (.getfield 29, 3) := dop_180 (dn_w dw48_0 10 rfl) rfl
theorem dX5_isMarked_13 : decode cX5_isMarked 13 = .ok (.isub, 1) := dop_100 (dn_w dw48_0 13 rfl)
theorem dX5_isMarked_14 : decode cX5_isMarked 14 = .ok (.iload_n 2, 1) := dop_28 (dn_w dw48_0 14 rfl)
theorem dX5_isMarked_15 : decode cX5_isMarked 15 = .ok (.if_icmp .eq 5, 3) := dop_159 (dn_w dw48_0 15 rfl) rfl
theorem dX5_isMarked_18 : decode cX5_isMarked 18 = .ok (.iconst 0, 1) := dop_3 (dn_w dw48_1 2 rfl)
theorem dX5_isMarked_19 : decode cX5_isMarked 19 = .ok (.ireturn, 1) := dop_172 (dn_w dw48_1 3 rfl)
theorem dX5_isMarked_20 : decode cX5_isMarked 20 = .ok (.iconst 0, 1) := dop_3 (dn_w dw48_1 4 rfl)
theorem dX5_isMarked_21 : decode cX5_isMarked 21 = .ok (.istore_n 3, 1) := dop_62 (dn_w dw48_1 5 rfl)
theorem dX5_isMarked_22 : decode cX5_isMarked 22 = .ok (.iload_n 3, 1) := dop_29 (dn_w dw48_1 6 rfl)
theorem dX5_isMarked_23 : decode cX5_isMarked 23 = .ok (.iload_n 2, 1) := dop_28 (dn_w dw48_1 7 rfl)
theorem dX5_isMarked_24 : decode cX5_isMarked 24 = .ok (.if_icmp .ge 30, 3) := dop_162 (dn_w dw48_1 8 rfl) rfl
theorem dX5_isMarked_27 : decode cX5_isMarked 27 = .ok (.aload_n 0, 1) := dop_42 (dn_w dw48_1 11 rfl)
theorem dX5_isMarked_28 : decode cX5_isMarked 28 = .ok (.getfield 11, 3) := dop_180 (dn_w dw48_1 12 rfl) rfl
theorem dX5_isMarked_31 : decode cX5_isMarked 31 = .ok (.aload_n 0, 1) := dop_42 (dn_w dw48_1 15 rfl)
theorem dX5_isMarked_32 : decode cX5_isMarked 32 = .ok (.getfield 29, 3) := dop_180 (dn_w dw48_2 0 rfl) rfl
theorem dX5_isMarked_35 : decode cX5_isMarked 35 = .ok (.iload_n 3, 1) := dop_29 (dn_w dw48_2 3 rfl)
theorem dX5_isMarked_36 : decode cX5_isMarked 36 = .ok (.iadd, 1) := dop_96 (dn_w dw48_2 4 rfl)
theorem dX5_isMarked_37 : decode cX5_isMarked 37 = .ok (.baload, 1) := dop_51 (dn_w dw48_2 5 rfl)
theorem dX5_isMarked_38 : decode cX5_isMarked 38 = .ok (.aload_n 1, 1) := dop_43 (dn_w dw48_2 6 rfl)
theorem dX5_isMarked_39 : decode cX5_isMarked 39 = .ok (.iload_n 3, 1) := dop_29 (dn_w dw48_2 7 rfl)
theorem dX5_isMarked_40 : decode cX5_isMarked 40 = .ok (.invokevirtual 113, 3) := dop_182 (dn_w dw48_2 8 rfl) rfl
theorem dX5_isMarked_43 : decode cX5_isMarked 43 = .ok (.if_icmp .eq 5, 3) := dop_159 (dn_w dw48_2 11 rfl) rfl
theorem dX5_isMarked_46 : decode cX5_isMarked 46 = .ok (.iconst 0, 1) := dop_3 (dn_w dw48_2 14 rfl)
theorem dX5_isMarked_47 : decode cX5_isMarked 47 = .ok (.ireturn, 1) := dop_172 (dn_w dw48_2 15 rfl)
theorem dX5_isMarked_48 : decode cX5_isMarked 48 = .ok (.iinc 3 1, 3) := dop_132 (dn_w dw48_3 0 rfl) rfl
theorem dX5_isMarked_51 : decode cX5_isMarked 51 = .ok (.goto (-29), 3) := dop_167 (dn_w dw48_3 3 rfl) rfl
theorem dX5_isMarked_54 : decode cX5_isMarked 54 = .ok (.iconst 1, 1) := dop_4 (dn_w dw48_3 6 rfl)
theorem dX5_isMarked_55 : decode cX5_isMarked 55 = .ok (.ireturn, 1) := dop_172 (dn_w dw48_3 7 rfl)
noncomputable def dt49_1 : List Nat := 3 :: 172 :: []
noncomputable def dt49_0 : List Nat := 26 :: 16 :: 97 :: 161 :: 0 :: 13 :: 26 :: 16 :: 122 :: 163 :: 0 :: 7 :: 4 :: 167 :: 0 :: 4 :: dt49_1
theorem dw49_0 : dn cX5_isLetter 0 = dt49_0 := by decide +kernel
theorem dw49_1 : dn cX5_isLetter 16 = dt49_1 := dn_w dw49_0 16 rfl
theorem dX5_isLetter_0 : decode cX5_isLetter 0 = .ok (.iload_n 0, 1) := dop_26 (dn_w dw49_0 0 rfl)
theorem dX5_isLetter_1 : decode cX5_isLetter 1 = .ok (.bipush 97, 2) := dop_16 (dn_w dw49_0 1 rfl) rfl
theorem dX5_isLetter_3 : decode cX5_isLetter 3 = .ok (.if_icmp .lt 13, 3) := dop_161 (dn_w dw49_0 3 rfl) rfl
theorem dX5_isLetter_6 : decode cX5_isLetter 6 = .ok (.iload_n 0, 1) := dop_26 (dn_w dw49_0 6 rfl)
theorem dX5_isLetter_7 : decode cX5_isLetter 7 = .ok (.bipush 122, 2) := dop_16 (dn_w dw49_0 7 rfl) rfl
theorem dX5_isLetter_9 : decode cX5_isLetter 9 = .ok (.if_icmp .gt 7, 3) := dop_163 (dn_w dw49_0 9 rfl) rfl
theorem dX5_isLetter_12 : decode cX5_isLetter 12 = .ok (.iconst 1, 1) := dop_4 (dn_w dw49_0 12 rfl)
theorem dX5_isLetter_13 : decode cX5_isLetter 13 = .ok (.goto 4, 3) := dop_167 (dn_w dw49_0 13 rfl) rfl
theorem dX5_isLetter_16 : decode cX5_isLetter 16 = .ok (.iconst 0, 1) := dop_3 (dn_w dw49_1 0 rfl)
theorem dX5_isLetter_17 : decode cX5_isLetter 17 = .ok (.ireturn, 1) := dop_172 (dn_w dw49_1 1 rfl)
noncomputable def dt50_6 : List Nat := 176 :: 18 :: 137 :: 176 :: 18 :: 139 :: 176 :: []
noncomputable def dt50_5 : List Nat := 127 :: 176 :: 18 :: 129 :: 176 :: 18 :: 131 :: 176 :: 18 :: 133 :: 176 :: 18 :: 135 :: 176 :: 18 :: 136 :: dt50_6
noncomputable def dt50_4 : List Nat := 18 :: 117 :: 176 :: 18 :: 119 :: 176 :: 18 :: 121 :: 176 :: 18 :: 123 :: 176 :: 18 :: 125 :: 176 :: 18 :: dt50_5
noncomputable def dt50_3 : List Nat := 0 :: 0 :: 0 :: 87 :: 0 :: 0 :: 0 :: 90 :: 0 :: 0 :: 0 :: 93 :: 0 :: 0 :: 0 :: 96 :: dt50_4
noncomputable def dt50_2 : List Nat := 0 :: 0 :: 0 :: 75 :: 0 :: 0 :: 0 :: 78 :: 0 :: 0 :: 0 :: 81 :: 0 :: 0 :: 0 :: 84 :: dt50_3
noncomputable def dt50_1 : List Nat := 0 :: 0 :: 0 :: 63 :: 0 :: 0 :: 0 :: 66 :: 0 :: 0 :: 0 :: 69 :: 0 :: 0 :: 0 :: 72 :: dt50_2
noncomputable def dt50_0 : List Nat := 26 :: 170 :: 0 :: 0 :: 0 :: 0 :: 0 :: 99 :: 0 :: 0 :: 0 :: 0 :: 0 :: 0 :: 0 :: 11 :: dt50_1
theorem dw50_0 : dn cX5_nameOf 0 = dt50_0 := by decide +kernel
theorem dw50_1 : dn cX5_nameOf 16 = dt50_1 := dn_w dw50_0 16 rfl
theorem dw50_2 : dn cX5_nameOf 32 = dt50_2 := dn_w dw50_1 16 rfl
theorem dw50_3 : dn cX5_nameOf 48 = dt50_3 := dn_w dw50_2 16 rfl
theorem dw50_4 : dn cX5_nameOf 64 = dt50_4 := dn_w dw50_3 16 rfl
theorem dw50_5 : dn cX5_nameOf 80 = dt50_5 := dn_w dw50_4 16 rfl
theorem dw50_6 : dn cX5_nameOf 96 = dt50_6 := dn_w dw50_5 16 rfl
theorem dX5_nameOf_0 : decode cX5_nameOf 0 = .ok (.iload_n 0, 1) := dop_26 (dn_w dw50_0 0 rfl)
theorem dX5_nameOf_1 : decode cX5_nameOf 1 = .ok (.tableswitch 99 0 11 #[63, 66, 69, 72, 75, 78, 81, 84, 87, 90, 93, 96], 63) := by decide +kernel
theorem dX5_nameOf_64 : decode cX5_nameOf 64 = .ok (.ldc 117, 2) := dop_18 (dn_w dw50_4 0 rfl)
theorem dX5_nameOf_66 : decode cX5_nameOf 66 = .ok (.areturn, 1) := dop_176 (dn_w dw50_4 2 rfl)
theorem dX5_nameOf_67 : decode cX5_nameOf 67 = .ok (.ldc 119, 2) := dop_18 (dn_w dw50_4 3 rfl)
theorem dX5_nameOf_69 : decode cX5_nameOf 69 = .ok (.areturn, 1) := dop_176 (dn_w dw50_4 5 rfl)
theorem dX5_nameOf_70 : decode cX5_nameOf 70 = .ok (.ldc 121, 2) := dop_18 (dn_w dw50_4 6 rfl)
theorem dX5_nameOf_72 : decode cX5_nameOf 72 = .ok (.areturn, 1) := dop_176 (dn_w dw50_4 8 rfl)
theorem dX5_nameOf_73 : decode cX5_nameOf 73 = .ok (.ldc 123, 2) := dop_18 (dn_w dw50_4 9 rfl)
theorem dX5_nameOf_75 : decode cX5_nameOf 75 = .ok (.areturn, 1) := dop_176 (dn_w dw50_4 11 rfl)
theorem dX5_nameOf_76 : decode cX5_nameOf 76 = .ok (.ldc 125, 2) := dop_18 (dn_w dw50_4 12 rfl)
theorem dX5_nameOf_78 : decode cX5_nameOf 78 = .ok (.areturn, 1) := dop_176 (dn_w dw50_4 14 rfl)
theorem dX5_nameOf_79 : decode cX5_nameOf 79 = .ok (.ldc 127, 2) := dop_18 (dn_w dw50_4 15 rfl)
theorem dX5_nameOf_81 : decode cX5_nameOf 81 = .ok (.areturn, 1) := dop_176 (dn_w dw50_5 1 rfl)
theorem dX5_nameOf_82 : decode cX5_nameOf 82 = .ok (.ldc 129, 2) := dop_18 (dn_w dw50_5 2 rfl)
theorem dX5_nameOf_84 : decode cX5_nameOf 84 = .ok (.areturn, 1) := dop_176 (dn_w dw50_5 4 rfl)
theorem dX5_nameOf_85 : decode cX5_nameOf 85 = .ok (.ldc 131, 2) := dop_18 (dn_w dw50_5 5 rfl)
theorem dX5_nameOf_87 : decode cX5_nameOf 87 = .ok (.areturn, 1) := dop_176 (dn_w dw50_5 7 rfl)
theorem dX5_nameOf_88 : decode cX5_nameOf 88 = .ok (.ldc 133, 2) := dop_18 (dn_w dw50_5 8 rfl)
theorem dX5_nameOf_90 : decode cX5_nameOf 90 = .ok (.areturn, 1) := dop_176 (dn_w dw50_5 10 rfl)
theorem dX5_nameOf_91 : decode cX5_nameOf 91 = .ok (.ldc 135, 2) := dop_18 (dn_w dw50_5 11 rfl)
theorem dX5_nameOf_93 : decode cX5_nameOf 93 = .ok (.areturn, 1) := dop_176 (dn_w dw50_5 13 rfl)
theorem dX5_nameOf_94 : decode cX5_nameOf 94 = .ok (.ldc 136, 2) := dop_18 (dn_w dw50_5 14 rfl)
theorem dX5_nameOf_96 : decode cX5_nameOf 96 = .ok (.areturn, 1) := dop_176 (dn_w dw50_6 0 rfl)
theorem dX5_nameOf_97 : decode cX5_nameOf 97 = .ok (.ldc 137, 2) := dop_18 (dn_w dw50_6 1 rfl)
theorem dX5_nameOf_99 : decode cX5_nameOf 99 = .ok (.areturn, 1) := dop_176 (dn_w dw50_6 3 rfl)
theorem dX5_nameOf_100 : decode cX5_nameOf 100 = .ok (.ldc 139, 2) := dop_18 (dn_w dw50_6 4 rfl)
theorem dX5_nameOf_102 : decode cX5_nameOf 102 = .ok (.areturn, 1) := dop_176 (dn_w dw50_6 6 rfl)
noncomputable def dt51_2 : List Nat := 42 :: 3 :: 181 :: 0 :: 28 :: 177 :: []
noncomputable def dt51_1 : List Nat := 15 :: 42 :: 3 :: 181 :: 0 :: 19 :: 42 :: 3 :: 181 :: 0 :: 22 :: 42 :: 3 :: 181 :: 0 :: 25 :: dt51_2
noncomputable def dt51_0 : List Nat := 42 :: 183 :: 0 :: 3 :: 42 :: 16 :: 30 :: 188 :: 10 :: 181 :: 0 :: 11 :: 42 :: 3 :: 181 :: 0 :: dt51_1
theorem dw51_0 : dn cX6_init 0 = dt51_0 := by decide +kernel
theorem dw51_1 : dn cX6_init 16 = dt51_1 := dn_w dw51_0 16 rfl
theorem dw51_2 : dn cX6_init 32 = dt51_2 := dn_w dw51_1 16 rfl
theorem dX6_init_0 : decode cX6_init 0 = .ok (.aload_n 0, 1) := dop_42 (dn_w dw51_0 0 rfl)
theorem dX6_init_1 : decode cX6_init 1 = .ok (.invokespecial 3, 3) := dop_183 (dn_w dw51_0 1 rfl) rfl
theorem dX6_init_4 : decode cX6_init 4 = .ok (.aload_n 0, 1) := dop_42 (dn_w dw51_0 4 rfl)
theorem dX6_init_5 : decode cX6_init 5 = .ok (.bipush 30, 2) := dop_16 (dn_w dw51_0 5 rfl) rfl
theorem dX6_init_7 : decode cX6_init 7 = .ok (.newarray .int, 2) := by decide +kernel
theorem dX6_init_9 : decode cX6_init 9 = .ok (.putfield 11, 3) := dop_181 (dn_w dw51_0 9 rfl) rfl
theorem dX6_init_12 : decode cX6_init 12 = .ok (.aload_n 0, 1) := dop_42 (dn_w dw51_0 12 rfl)
theorem dX6_init_13 : decode cX6_init 13 = .ok (.iconst 0, 1) := dop_3 (dn_w dw51_0 13 rfl)
theorem dX6_init_14 : decode cX6_init 14 = .ok (.putfield 15, 3) := dop_181 (dn_w dw51_0 14 rfl) rfl
theorem dX6_init_17 : decode cX6_init 17 = .ok (.aload_n 0, 1) := dop_42 (dn_w dw51_1 1 rfl)
theorem dX6_init_18 : decode cX6_init 18 = .ok (.iconst 0, 1) := dop_3 (dn_w dw51_1 2 rfl)
theorem dX6_init_19 : decode cX6_init 19 = .ok (.putfield 19, 3) := dop_181 (dn_w dw51_1 3 rfl) rfl
theorem dX6_init_22 : decode cX6_init 22 = .ok (.aload_n 0, 1) := dop_42 (dn_w dw51_1 6 rfl)
theorem dX6_init_23 : decode cX6_init 23 = .ok (.iconst 0, 1) := dop_3 (dn_w dw51_1 7 rfl)
theorem dX6_init_24 : decode cX6_init 24 = .ok (.putfield 22, 3) := dop_181 (dn_w dw51_1 8 rfl) rfl
theorem dX6_init_27 : decode cX6_init 27 = .ok (.aload_n 0, 1) := dop_42 (dn_w dw51_1 11 rfl)
theorem dX6_init_28 : decode cX6_init 28 = .ok (.iconst 0, 1) := dop_3 (dn_w dw51_1 12 rfl)
theorem dX6_init_29 : decode cX6_init 29 = .ok (.putfield 25, 3) := dop_181 (dn_w dw51_1 13 rfl) rfl
theorem dX6_init_32 : decode cX6_init 32 = .ok (.aload_n 0, 1) := dop_42 (dn_w dw51_2 0 rfl)
theorem dX6_init_33 : decode cX6_init 33 = .ok (.iconst 0, 1) := dop_3 (dn_w dw51_2 1 rfl)
theorem dX6_init_34 : decode cX6_init 34 = .ok (.putfield 28, 3) := dop_181 (dn_w dw51_2 2 rfl) rfl
theorem dX6_init_37 : decode cX6_init 37 = .ok (.return_, 1) := dop_177 (dn_w dw51_2 5 rfl)
noncomputable def dt52_0 : List Nat := 42 :: 3 :: 181 :: 0 :: 15 :: 42 :: 3 :: 181 :: 0 :: 28 :: 177 :: []
theorem dw52_0 : dn cX6_clearTrace 0 = dt52_0 := by decide +kernel
theorem dX6_clearTrace_0 : decode cX6_clearTrace 0 = .ok (.aload_n 0, 1) := dop_42 (dn_w dw52_0 0 rfl)
theorem dX6_clearTrace_1 : decode cX6_clearTrace 1 = .ok (.iconst 0, 1) := dop_3 (dn_w dw52_0 1 rfl)
theorem dX6_clearTrace_2 : decode cX6_clearTrace 2 = .ok (.putfield 15, 3) := dop_181 (dn_w dw52_0 2 rfl) rfl
theorem dX6_clearTrace_5 : decode cX6_clearTrace 5 = .ok (.aload_n 0, 1) := dop_42 (dn_w dw52_0 5 rfl)
theorem dX6_clearTrace_6 : decode cX6_clearTrace 6 = .ok (.iconst 0, 1) := dop_3 (dn_w dw52_0 6 rfl)
theorem dX6_clearTrace_7 : decode cX6_clearTrace 7 = .ok (.putfield 28, 3) := dop_181 (dn_w dw52_0 7 rfl) rfl
theorem dX6_clearTrace_10 : decode cX6_clearTrace 10 = .ok (.return_, 1) := dop_177 (dn_w dw52_0 10 rfl)
noncomputable def dt53_2 : List Nat := 0 :: 28 :: 153 :: 0 :: 8 :: 16 :: 241 :: 167 :: 0 :: 5 :: 21 :: 6 :: 172 :: []
noncomputable def dt53_1 : List Nat := 21 :: 4 :: 42 :: 180 :: 0 :: 19 :: 21 :: 5 :: 3 :: 182 :: 0 :: 32 :: 54 :: 6 :: 42 :: 180 :: dt53_2
noncomputable def dt53_0 : List Nat := 42 :: 27 :: 181 :: 0 :: 19 :: 42 :: 28 :: 181 :: 0 :: 22 :: 42 :: 29 :: 181 :: 0 :: 25 :: 42 :: dt53_1
theorem dw53_0 : dn cX6_answerOf 0 = dt53_0 := by decide +kernel
theorem dw53_1 : dn cX6_answerOf 16 = dt53_1 := dn_w dw53_0 16 rfl
theorem dw53_2 : dn cX6_answerOf 32 = dt53_2 := dn_w dw53_1 16 rfl
theorem dX6_answerOf_0 : decode cX6_answerOf 0 = .ok (.aload_n 0, 1) := dop_42 (dn_w dw53_0 0 rfl)
theorem dX6_answerOf_1 : decode cX6_answerOf 1 = .ok (.iload_n 1, 1) := dop_27 (dn_w dw53_0 1 rfl)
theorem dX6_answerOf_2 : decode cX6_answerOf 2 = .ok (.putfield 19, 3) := dop_181 (dn_w dw53_0 2 rfl) rfl
theorem dX6_answerOf_5 : decode cX6_answerOf 5 = .ok (.aload_n 0, 1) := dop_42 (dn_w dw53_0 5 rfl)
theorem dX6_answerOf_6 : decode cX6_answerOf 6 = .ok (.iload_n 2, 1) := dop_28 (dn_w dw53_0 6 rfl)
theorem dX6_answerOf_7 : decode cX6_answerOf 7 = .ok (.putfield 22, 3) := dop_181 (dn_w dw53_0 7 rfl) rfl
theorem dX6_answerOf_10 : decode cX6_answerOf 10 = .ok (.aload_n 0, 1) := dop_42 (dn_w dw53_0 10 rfl)
theorem dX6_answerOf_11 : decode cX6_answerOf 11 = .ok (.iload_n 3, 1) := dop_29 (dn_w dw53_0 11 rfl)
theorem dX6_answerOf_12 : decode cX6_answerOf 12 = .ok (.putfield 25, 3) := dop_181 (dn_w dw53_0 12 rfl) rfl
theorem dX6_answerOf_15 : decode cX6_answerOf 15 = .ok (.aload_n 0, 1) := dop_42 (dn_w dw53_0 15 rfl)
theorem dX6_answerOf_16 : decode cX6_answerOf 16 = .ok (.iload 4, 2) := dop_21 (dn_w dw53_1 0 rfl)
theorem dX6_answerOf_18 : decode cX6_answerOf 18 = .ok (.aload_n 0, 1) := dop_42 (dn_w dw53_1 2 rfl)
theorem dX6_answerOf_19 : decode cX6_answerOf 19 = .ok (.getfield 19, 3) := dop_180 (dn_w dw53_1 3 rfl) rfl
theorem dX6_answerOf_22 : decode cX6_answerOf 22 = .ok (.iload 5, 2) := dop_21 (dn_w dw53_1 6 rfl)
theorem dX6_answerOf_24 : decode cX6_answerOf 24 = .ok (.iconst 0, 1) := dop_3 (dn_w dw53_1 8 rfl)
theorem dX6_answerOf_25 : decode cX6_answerOf 25 = .ok (.invokevirtual 32, 3) := dop_182 (dn_w dw53_1 9 rfl) rfl
theorem dX6_answerOf_28 : decode cX6_answerOf 28 = .ok (.istore 6, 2) := dop_54 (dn_w dw53_1 12 rfl)
theorem dX6_answerOf_30 : decode cX6_answerOf 30 = .ok (.aload_n 0, 1) := dop_42 (dn_w dw53_1 14 rfl)
theorem dX6_answerOf_31 : decode cX6_answerOf 31 = .ok (.getfield 28, 3) := dop_180 (dn_w dw53_1 15 rfl) rfl
theorem dX6_answerOf_34 : decode cX6_answerOf 34 = .ok (.ifCond .eq 8, 3) := dop_153 (dn_w dw53_2 2 rfl) rfl
theorem dX6_answerOf_37 : decode cX6_answerOf 37 = .ok (.bipush (-15), 2) := dop_16 (dn_w dw53_2 5 rfl) rfl
theorem dX6_answerOf_39 : decode cX6_answerOf 39 = .ok (.goto 5, 3) := dop_167 (dn_w dw53_2 7 rfl) rfl
theorem dX6_answerOf_42 : decode cX6_answerOf 42 = .ok (.iload 6, 2) := dop_21 (dn_w dw53_2 10 rfl)
theorem dX6_answerOf_44 : decode cX6_answerOf 44 = .ok (.ireturn, 1) := dop_172 (dn_w dw53_2 12 rfl)
noncomputable def dt54_4 : List Nat := 172 :: []
noncomputable def dt54_3 : List Nat := 4 :: 96 :: 181 :: 0 :: 15 :: 42 :: 21 :: 5 :: 29 :: 21 :: 4 :: 4 :: 96 :: 182 :: 0 :: 40 :: dt54_4
noncomputable def dt54_2 : List Nat := 42 :: 180 :: 0 :: 11 :: 42 :: 180 :: 0 :: 15 :: 21 :: 5 :: 79 :: 42 :: 89 :: 180 :: 0 :: 15 :: dt54_3
noncomputable def dt54_1 : List Nat := 27 :: 28 :: 184 :: 0 :: 36 :: 54 :: 5 :: 42 :: 180 :: 0 :: 15 :: 16 :: 30 :: 162 :: 0 :: 24 :: dt54_2
noncomputable def dt54_0 : List Nat := 42 :: 180 :: 0 :: 28 :: 154 :: 0 :: 10 :: 21 :: 4 :: 16 :: 30 :: 164 :: 0 :: 5 :: 3 :: 172 :: dt54_1
theorem dw54_0 : dn cX6_runAct 0 = dt54_0 := by decide +kernel
theorem dw54_1 : dn cX6_runAct 16 = dt54_1 := dn_w dw54_0 16 rfl
theorem dw54_2 : dn cX6_runAct 32 = dt54_2 := dn_w dw54_1 16 rfl
theorem dw54_3 : dn cX6_runAct 48 = dt54_3 := dn_w dw54_2 16 rfl
theorem dw54_4 : dn cX6_runAct 64 = dt54_4 := dn_w dw54_3 16 rfl
theorem dX6_runAct_0 : decode cX6_runAct 0 = .ok (.aload_n 0, 1) := dop_42 (dn_w dw54_0 0 rfl)
theorem dX6_runAct_1 : decode cX6_runAct 1 = .ok (.getfield 28, 3) := dop_180 (dn_w dw54_0 1 rfl) rfl
theorem dX6_runAct_4 : decode cX6_runAct 4 = .ok (.ifCond .ne 10, 3) := dop_154 (dn_w dw54_0 4 rfl) rfl
theorem dX6_runAct_7 : decode cX6_runAct 7 = .ok (.iload 4, 2) := dop_21 (dn_w dw54_0 7 rfl)
theorem dX6_runAct_9 : decode cX6_runAct 9 = .ok (.bipush 30, 2) := dop_16 (dn_w dw54_0 9 rfl) rfl
theorem dX6_runAct_11 : decode cX6_runAct 11 = .ok (.if_icmp .le 5, 3) := dop_164 (dn_w dw54_0 11 rfl) rfl
theorem dX6_runAct_14 : decode cX6_runAct 14 = .ok (.iconst 0, 1) := dop_3 (dn_w dw54_0 14 rfl)
theorem dX6_runAct_15 : decode cX6_runAct 15 = .ok (.ireturn, 1) := dop_172 (dn_w dw54_0 15 rfl)
theorem dX6_runAct_16 : decode cX6_runAct 16 = .ok (.iload_n 1, 1) := dop_27 (dn_w dw54_1 0 rfl)
theorem dX6_runAct_17 : decode cX6_runAct 17 = .ok (.iload_n 2, 1) := dop_28 (dn_w dw54_1 1 rfl)
theorem dX6_runAct_18 : decode cX6_runAct 18 = .ok (.invokestatic 36, 3) := dop_184 (dn_w dw54_1 2 rfl) rfl
theorem dX6_runAct_21 : decode cX6_runAct 21 = .ok (.istore 5, 2) := dop_54 (dn_w dw54_1 5 rfl)
theorem dX6_runAct_23 : decode cX6_runAct 23 = .ok (.aload_n 0, 1) := dop_42 (dn_w dw54_1 7 rfl)
theorem dX6_runAct_24 : decode cX6_runAct 24 = .ok (.getfield 15, 3) := dop_180 (dn_w dw54_1 8 rfl) rfl
theorem dX6_runAct_27 : decode cX6_runAct 27 = .ok (.bipush 30, 2) := dop_16 (dn_w dw54_1 11 rfl) rfl
theorem dX6_runAct_29 : decode cX6_runAct 29 = .ok (.if_icmp .ge 24, 3) := dop_162 (dn_w dw54_1 13 rfl) rfl
theorem dX6_runAct_32 : decode cX6_runAct 32 = .ok (.aload_n 0, 1) := dop_42 (dn_w dw54_2 0 rfl)
theorem dX6_runAct_33 : decode cX6_runAct 33 = .ok (.getfield 11, 3) := dop_180 (dn_w dw54_2 1 rfl) rfl
theorem dX6_runAct_36 : decode cX6_runAct 36 = .ok (.aload_n 0, 1) := dop_42 (dn_w dw54_2 4 rfl)
theorem dX6_runAct_37 : decode cX6_runAct 37 = .ok (.getfield 15, 3) := dop_180 (dn_w dw54_2 5 rfl) rfl
theorem dX6_runAct_40 : decode cX6_runAct 40 = .ok (.iload 5, 2) := dop_21 (dn_w dw54_2 8 rfl)
theorem dX6_runAct_42 : decode cX6_runAct 42 = .ok (.iastore, 1) := dop_79 (dn_w dw54_2 10 rfl)
theorem dX6_runAct_43 : decode cX6_runAct 43 = .ok (.aload_n 0, 1) := dop_42 (dn_w dw54_2 11 rfl)
theorem dX6_runAct_44 : decode cX6_runAct 44 = .ok (.dup, 1) := dop_89 (dn_w dw54_2 12 rfl)
theorem dX6_runAct_45 : decode cX6_runAct 45 = .ok (.getfield 15, 3) := dop_180 (dn_w dw54_2 13 rfl) rfl
theorem dX6_runAct_48 : decode cX6_runAct 48 = .ok (.iconst 1, 1) := dop_4 (dn_w dw54_3 0 rfl)
theorem dX6_runAct_49 : decode cX6_runAct 49 = .ok (.iadd, 1) := dop_96 (dn_w dw54_3 1 rfl)
theorem dX6_runAct_50 : decode cX6_runAct 50 = .ok (.putfield 15, 3) := dop_181 (dn_w dw54_3 2 rfl) rfl
theorem dX6_runAct_53 : decode cX6_runAct 53 = .ok (.aload_n 0, 1) := dop_42 (dn_w dw54_3 5 rfl)
theorem dX6_runAct_54 : decode cX6_runAct 54 = .ok (.iload 5, 2) := dop_21 (dn_w dw54_3 6 rfl)
theorem dX6_runAct_56 : decode cX6_runAct 56 = .ok (.iload_n 3, 1) := dop_29 (dn_w dw54_3 8 rfl)
theorem dX6_runAct_57 : decode cX6_runAct 57 = .ok (.iload 4, 2) := dop_21 (dn_w dw54_3 9 rfl)
theorem dX6_runAct_59 : decode cX6_runAct 59 = .ok (.iconst 1, 1) := dop_4 (dn_w dw54_3 11 rfl)
theorem dX6_runAct_60 : decode cX6_runAct 60 = .ok (.iadd, 1) := dop_96 (dn_w dw54_3 12 rfl)
theorem dX6_runAct_61 : decode cX6_runAct 61 = .ok (.invokevirtual 40, 3) := dop_182 (dn_w dw54_3 13 rfl) rfl
theorem dX6_runAct_64 : decode cX6_runAct 64 = .ok (.ireturn, 1) := dop_172 (dn_w dw54_4 0 rfl)
noncomputable def dt55_4 : List Nat := 198 :: 3 :: 172 :: []
noncomputable def dt55_3 : List Nat := 48 :: 21 :: 4 :: 46 :: 172 :: 178 :: 0 :: 51 :: 28 :: 46 :: 61 :: 132 :: 3 :: 1 :: 167 :: 255 :: dt55_4
noncomputable def dt55_2 : List Nat := 48 :: 190 :: 162 :: 0 :: 19 :: 178 :: 0 :: 48 :: 21 :: 4 :: 46 :: 153 :: 0 :: 10 :: 178 :: 0 :: dt55_3
noncomputable def dt55_1 : List Nat := 28 :: 7 :: 104 :: 26 :: 96 :: 54 :: 4 :: 21 :: 4 :: 155 :: 0 :: 28 :: 21 :: 4 :: 178 :: 0 :: dt55_2
noncomputable def dt55_0 : List Nat := 27 :: 61 :: 3 :: 62 :: 29 :: 6 :: 162 :: 0 :: 59 :: 28 :: 184 :: 0 :: 44 :: 153 :: 0 :: 52 :: dt55_1
theorem dw55_0 : dn cX6_bodyOf 0 = dt55_0 := by decide +kernel
theorem dw55_1 : dn cX6_bodyOf 16 = dt55_1 := dn_w dw55_0 16 rfl
theorem dw55_2 : dn cX6_bodyOf 32 = dt55_2 := dn_w dw55_1 16 rfl
theorem dw55_3 : dn cX6_bodyOf 48 = dt55_3 := dn_w dw55_2 16 rfl
theorem dw55_4 : dn cX6_bodyOf 64 = dt55_4 := dn_w dw55_3 16 rfl
theorem dX6_bodyOf_0 : decode cX6_bodyOf 0 = .ok (.iload_n 1, 1) := dop_27 (dn_w dw55_0 0 rfl)
theorem dX6_bodyOf_1 : decode cX6_bodyOf 1 = .ok (.istore_n 2, 1) := dop_61 (dn_w dw55_0 1 rfl)
theorem dX6_bodyOf_2 : decode cX6_bodyOf 2 = .ok (.iconst 0, 1) := dop_3 (dn_w dw55_0 2 rfl)
theorem dX6_bodyOf_3 : decode cX6_bodyOf 3 = .ok (.istore_n 3, 1) := dop_62 (dn_w dw55_0 3 rfl)
theorem dX6_bodyOf_4 : decode cX6_bodyOf 4 = .ok (.iload_n 3, 1) := dop_29 (dn_w dw55_0 4 rfl)
theorem dX6_bodyOf_5 : decode cX6_bodyOf 5 = .ok (.iconst 3, 1) := dop_6 (dn_w dw55_0 5 rfl)
theorem dX6_bodyOf_6 : decode cX6_bodyOf 6 = .ok (.if_icmp .ge 59, 3) := dop_162 (dn_w dw55_0 6 rfl) rfl
theorem dX6_bodyOf_9 : decode cX6_bodyOf 9 = .ok (.iload_n 2, 1) := dop_28 (dn_w dw55_0 9 rfl)
theorem dX6_bodyOf_10 : decode cX6_bodyOf 10 = .ok (.invokestatic 44, 3) := dop_184 (dn_w dw55_0 10 rfl) rfl
theorem dX6_bodyOf_13 : decode cX6_bodyOf 13 = .ok (.ifCond .eq 52, 3) := dop_153 (dn_w dw55_0 13 rfl) rfl
theorem dX6_bodyOf_16 : decode cX6_bodyOf 16 = .ok (.iload_n 2, 1) := dop_28 (dn_w dw55_1 0 rfl)
theorem dX6_bodyOf_17 : decode cX6_bodyOf 17 = .ok (.iconst 4, 1) := dop_7 (dn_w dw55_1 1 rfl)
theorem dX6_bodyOf_18 : decode cX6_bodyOf 18 = .ok (.imul, 1) := dop_104 (dn_w dw55_1 2 rfl)
theorem dX6_bodyOf_19 : decode cX6_bodyOf 19 = .ok (.iload_n 0, 1) := dop_26 (dn_w dw55_1 3 rfl)
theorem dX6_bodyOf_20 : decode cX6_bodyOf 20 = .ok (.iadd, 1) := dop_96 (dn_w dw55_1 4 rfl)
theorem dX6_bodyOf_21 : decode cX6_bodyOf 21 = .ok (.istore 4, 2) := dop_54 (dn_w dw55_1 5 rfl)
theorem dX6_bodyOf_23 : decode cX6_bodyOf 23 = .ok (.iload 4, 2) := dop_21 (dn_w dw55_1 7 rfl)
theorem dX6_bodyOf_25 : decode cX6_bodyOf 25 = .ok (.ifCond .lt 28, 3) := dop_155 (dn_w dw55_1 9 rfl) rfl
theorem dX6_bodyOf_28 : decode cX6_bodyOf 28 = .ok (.iload 4, 2) := dop_21 (dn_w dw55_1 12 rfl)
theorem dX6_bodyOf_30 : decode cX6_bodyOf 30 = .ok (.getstatic 48, 3) := dop_178 (dn_w dw55_1 14 rfl) rfl
theorem dX6_bodyOf_33 : decode cX6_bodyOf 33 = .ok (.arraylength, 1) := dop_190 (dn_w dw55_2 1 rfl)
theorem dX6_bodyOf_34 : decode cX6_bodyOf 34 = .ok (.if_icmp .ge 19, 3) := dop_162 (dn_w dw55_2 2 rfl) rfl
theorem dX6_bodyOf_37 : decode cX6_bodyOf 37 = .ok (.getstatic 48, 3) := dop_178 (dn_w dw55_2 5 rfl) rfl
theorem dX6_bodyOf_40 : decode cX6_bodyOf 40 = .ok (.iload 4, 2) := dop_21 (dn_w dw55_2 8 rfl)
theorem dX6_bodyOf_42 : decode cX6_bodyOf 42 = .ok (.iaload, 1) := dop_46 (dn_w dw55_2 10 rfl)
theorem dX6_bodyOf_43 : decode cX6_bodyOf 43 = .ok (.ifCond .eq 10, 3) := dop_153 (dn_w dw55_2 11 rfl) rfl
theorem dX6_bodyOf_46 : decode cX6_bodyOf 46 = .ok (.getstatic 48, 3) := dop_178 (dn_w dw55_2 14 rfl) rfl
theorem dX6_bodyOf_49 : decode cX6_bodyOf 49 = .ok (.iload 4, 2) := dop_21 (dn_w dw55_3 1 rfl)
theorem dX6_bodyOf_51 : decode cX6_bodyOf 51 = .ok (.iaload, 1) := dop_46 (dn_w dw55_3 3 rfl)
theorem dX6_bodyOf_52 : decode cX6_bodyOf 52 = .ok (.ireturn, 1) := dop_172 (dn_w dw55_3 4 rfl)
theorem dX6_bodyOf_53 : decode cX6_bodyOf 53 = .ok (.getstatic 51, 3) := dop_178 (dn_w dw55_3 5 rfl) rfl
theorem dX6_bodyOf_56 : decode cX6_bodyOf 56 = .ok (.iload_n 2, 1) := dop_28 (dn_w dw55_3 8 rfl)
theorem dX6_bodyOf_57 : decode cX6_bodyOf 57 = .ok (.iaload, 1) := dop_46 (dn_w dw55_3 9 rfl)
theorem dX6_bodyOf_58 : decode cX6_bodyOf 58 = .ok (.istore_n 2, 1) := dop_61 (dn_w dw55_3 10 rfl)
theorem dX6_bodyOf_59 : decode cX6_bodyOf 59 = .ok (.iinc 3 1, 3) := dop_132 (dn_w dw55_3 11 rfl) rfl
theorem dX6_bodyOf_62 : decode cX6_bodyOf 62 = .ok (.goto (-58), 3) := dop_167 (dn_w dw55_3 14 rfl) rfl
theorem dX6_bodyOf_65 : decode cX6_bodyOf 65 = .ok (.iconst 0, 1) := dop_3 (dn_w dw55_4 1 rfl)
theorem dX6_bodyOf_66 : decode cX6_bodyOf 66 = .ok (.ireturn, 1) := dop_172 (dn_w dw55_4 2 rfl)
noncomputable def dt56_28 : List Nat := 96 :: 172 :: 3 :: 172 :: []
noncomputable def dt56_27 : List Nat := 0 :: 32 :: 42 :: 3 :: 42 :: 180 :: 0 :: 19 :: 42 :: 180 :: 0 :: 25 :: 29 :: 182 :: 0 :: 32 :: dt56_28
noncomputable def dt56_26 : List Nat := 182 :: 0 :: 32 :: 5 :: 104 :: 172 :: 42 :: 5 :: 178 :: 0 :: 51 :: 6 :: 46 :: 28 :: 29 :: 182 :: dt56_27
noncomputable def dt56_25 : List Nat := 32 :: 42 :: 180 :: 0 :: 22 :: 100 :: 172 :: 42 :: 6 :: 178 :: 0 :: 51 :: 6 :: 46 :: 28 :: 29 :: dt56_26
noncomputable def dt56_24 : List Nat := 0 :: 32 :: 4 :: 130 :: 172 :: 42 :: 3 :: 178 :: 0 :: 51 :: 7 :: 46 :: 28 :: 29 :: 182 :: 0 :: dt56_25
noncomputable def dt56_23 : List Nat := 0 :: 32 :: 96 :: 172 :: 42 :: 5 :: 178 :: 0 :: 51 :: 7 :: 46 :: 28 :: 5 :: 96 :: 29 :: 182 :: dt56_24
noncomputable def dt56_22 : List Nat := 29 :: 182 :: 0 :: 32 :: 42 :: 3 :: 42 :: 180 :: 0 :: 19 :: 42 :: 180 :: 0 :: 22 :: 29 :: 182 :: dt56_23
noncomputable def dt56_21 : List Nat := 46 :: 28 :: 29 :: 182 :: 0 :: 32 :: 100 :: 172 :: 42 :: 4 :: 178 :: 0 :: 51 :: 8 :: 46 :: 28 :: dt56_22
noncomputable def dt56_20 : List Nat := 180 :: 0 :: 22 :: 29 :: 182 :: 0 :: 32 :: 96 :: 172 :: 3 :: 42 :: 3 :: 178 :: 0 :: 51 :: 8 :: dt56_21
noncomputable def dt56_19 : List Nat := 0 :: 51 :: 5 :: 46 :: 28 :: 29 :: 182 :: 0 :: 32 :: 42 :: 5 :: 42 :: 180 :: 0 :: 19 :: 42 :: dt56_20
noncomputable def dt56_18 : List Nat := 178 :: 0 :: 51 :: 5 :: 46 :: 28 :: 29 :: 182 :: 0 :: 32 :: 6 :: 104 :: 172 :: 42 :: 6 :: 178 :: dt56_19
noncomputable def dt56_17 : List Nat := 51 :: 4 :: 46 :: 28 :: 29 :: 182 :: 0 :: 32 :: 42 :: 180 :: 0 :: 25 :: 100 :: 172 :: 42 :: 3 :: dt56_18
noncomputable def dt56_16 : List Nat := 19 :: 28 :: 29 :: 182 :: 0 :: 32 :: 42 :: 180 :: 0 :: 25 :: 130 :: 172 :: 42 :: 4 :: 178 :: 0 :: dt56_17
noncomputable def dt56_15 : List Nat := 0 :: 32 :: 5 :: 104 :: 172 :: 42 :: 28 :: 182 :: 0 :: 54 :: 172 :: 42 :: 4 :: 42 :: 180 :: 0 :: dt56_16
noncomputable def dt56_14 : List Nat := 28 :: 42 :: 180 :: 0 :: 22 :: 96 :: 172 :: 42 :: 3 :: 42 :: 180 :: 0 :: 19 :: 28 :: 29 :: 182 :: dt56_15
noncomputable def dt56_13 : List Nat := 0 :: 0 :: 1 :: 193 :: 0 :: 0 :: 1 :: 193 :: 0 :: 0 :: 1 :: 150 :: 0 :: 0 :: 1 :: 165 :: dt56_14
noncomputable def dt56_12 : List Nat := 0 :: 0 :: 1 :: 193 :: 0 :: 0 :: 1 :: 193 :: 0 :: 0 :: 1 :: 193 :: 0 :: 0 :: 1 :: 193 :: dt56_13
noncomputable def dt56_11 : List Nat := 0 :: 0 :: 1 :: 115 :: 0 :: 0 :: 1 :: 132 :: 0 :: 0 :: 1 :: 193 :: 0 :: 0 :: 1 :: 193 :: dt56_12
noncomputable def dt56_10 : List Nat := 0 :: 0 :: 1 :: 193 :: 0 :: 0 :: 1 :: 193 :: 0 :: 0 :: 1 :: 193 :: 0 :: 0 :: 1 :: 193 :: dt56_11
noncomputable def dt56_9 : List Nat := 0 :: 0 :: 1 :: 193 :: 0 :: 0 :: 1 :: 193 :: 0 :: 0 :: 1 :: 193 :: 0 :: 0 :: 1 :: 193 :: dt56_10
noncomputable def dt56_8 : List Nat := 0 :: 0 :: 1 :: 193 :: 0 :: 0 :: 1 :: 193 :: 0 :: 0 :: 1 :: 72 :: 0 :: 0 :: 1 :: 87 :: dt56_9
noncomputable def dt56_7 : List Nat := 0 :: 0 :: 1 :: 193 :: 0 :: 0 :: 1 :: 193 :: 0 :: 0 :: 1 :: 193 :: 0 :: 0 :: 1 :: 193 :: dt56_8
noncomputable def dt56_6 : List Nat := 0 :: 0 :: 1 :: 29 :: 0 :: 0 :: 1 :: 44 :: 0 :: 0 :: 1 :: 193 :: 0 :: 0 :: 1 :: 193 :: dt56_7
noncomputable def dt56_5 : List Nat := 0 :: 0 :: 1 :: 193 :: 0 :: 0 :: 1 :: 193 :: 0 :: 0 :: 1 :: 193 :: 0 :: 0 :: 1 :: 193 :: dt56_6
noncomputable def dt56_4 : List Nat := 0 :: 0 :: 1 :: 193 :: 0 :: 0 :: 1 :: 193 :: 0 :: 0 :: 1 :: 193 :: 0 :: 0 :: 1 :: 193 :: dt56_5
noncomputable def dt56_3 : List Nat := 0 :: 0 :: 1 :: 193 :: 0 :: 0 :: 1 :: 193 :: 0 :: 0 :: 1 :: 11 :: 0 :: 0 :: 1 :: 193 :: dt56_4
noncomputable def dt56_2 : List Nat := 0 :: 0 :: 1 :: 193 :: 0 :: 0 :: 1 :: 193 :: 0 :: 0 :: 1 :: 193 :: 0 :: 0 :: 1 :: 193 :: dt56_3
noncomputable def dt56_1 : List Nat := 0 :: 0 :: 0 :: 223 :: 0 :: 0 :: 0 :: 230 :: 0 :: 0 :: 0 :: 244 :: 0 :: 0 :: 0 :: 250 :: dt56_2
noncomputable def dt56_0 : List Nat := 27 :: 170 :: 0 :: 0 :: 0 :: 0 :: 1 :: 193 :: 0 :: 0 :: 0 :: 10 :: 0 :: 0 :: 0 :: 61 :: dt56_1
theorem dw56_0 : dn cX6_runBody 0 = dt56_0 := by decide +kernel
theorem dw56_1 : dn cX6_runBody 16 = dt56_1 := dn_w dw56_0 16 rfl
theorem dw56_2 : dn cX6_runBody 32 = dt56_2 := dn_w dw56_1 16 rfl
theorem dw56_3 : dn cX6_runBody 48 = dt56_3 := dn_w dw56_2 16 rfl
theorem dw56_4 : dn cX6_runBody 64 = dt56_4 := dn_w dw56_3 16 rfl
theorem dw56_5 : dn cX6_runBody 80 = dt56_5 := dn_w dw56_4 16 rfl
theorem dw56_6 : dn cX6_runBody 96 = dt56_6 := dn_w dw56_5 16 rfl
theorem dw56_7 : dn cX6_runBody 112 = dt56_7 := dn_w dw56_6 16 rfl
theorem dw56_8 : dn cX6_runBody 128 = dt56_8 := dn_w dw56_7 16 rfl
theorem dw56_9 : dn cX6_runBody 144 = dt56_9 := dn_w dw56_8 16 rfl
theorem dw56_10 : dn cX6_runBody 160 = dt56_10 := dn_w dw56_9 16 rfl
theorem dw56_11 : dn cX6_runBody 176 = dt56_11 := dn_w dw56_10 16 rfl
theorem dw56_12 : dn cX6_runBody 192 = dt56_12 := dn_w dw56_11 16 rfl
theorem dw56_13 : dn cX6_runBody 208 = dt56_13 := dn_w dw56_12 16 rfl
theorem dw56_14 : dn cX6_runBody 224 = dt56_14 := dn_w dw56_13 16 rfl
theorem dw56_15 : dn cX6_runBody 240 = dt56_15 := dn_w dw56_14 16 rfl
theorem dw56_16 : dn cX6_runBody 256 = dt56_16 := dn_w dw56_15 16 rfl
theorem dw56_17 : dn cX6_runBody 272 = dt56_17 := dn_w dw56_16 16 rfl
theorem dw56_18 : dn cX6_runBody 288 = dt56_18 := dn_w dw56_17 16 rfl
theorem dw56_19 : dn cX6_runBody 304 = dt56_19 := dn_w dw56_18 16 rfl
theorem dw56_20 : dn cX6_runBody 320 = dt56_20 := dn_w dw56_19 16 rfl
theorem dw56_21 : dn cX6_runBody 336 = dt56_21 := dn_w dw56_20 16 rfl
theorem dw56_22 : dn cX6_runBody 352 = dt56_22 := dn_w dw56_21 16 rfl
theorem dw56_23 : dn cX6_runBody 368 = dt56_23 := dn_w dw56_22 16 rfl
theorem dw56_24 : dn cX6_runBody 384 = dt56_24 := dn_w dw56_23 16 rfl
theorem dw56_25 : dn cX6_runBody 400 = dt56_25 := dn_w dw56_24 16 rfl
theorem dw56_26 : dn cX6_runBody 416 = dt56_26 := dn_w dw56_25 16 rfl
theorem dw56_27 : dn cX6_runBody 432 = dt56_27 := dn_w dw56_26 16 rfl
theorem dw56_28 : dn cX6_runBody 448 = dt56_28 := dn_w dw56_27 16 rfl
theorem dX6_runBody_0 : decode cX6_runBody 0 = .ok (.iload_n 1, 1) := dop_27 (dn_w dw56_0 0 rfl)
theorem dX6_runBody_1 : decode cX6_runBody 1 = .ok (.tableswitch 449 10 61 #[223, 230, 244, 250, 449, 449, 449, 449, 449, 449, 267, 449, 449, 449, 449, 449, 449, 449, 449, 449, 285, 300, 449, 449, 449, 449, 449, 449, 449, 449, 328, 343, 449, 449, 449, 449, 449, 449, 449, 449, 371, 388, 449, 449, 449, 449, 449, 449, 449, 449, 406, 421], 223) := by decide +kernel
theorem dX6_runBody_224 : decode cX6_runBody 224 = .ok (.iload_n 2, 1) := dop_28 (dn_w dw56_14 0 rfl)
theorem dX6_runBody_225 : decode cX6_runBody 225 = .ok (.aload_n 0, 1) := dop_42 (dn_w dw56_14 1 rfl)
theorem dX6_runBody_226 : decode cX6_runBody 226 = .ok (.getfield 22, 3) := dop_180 (dn_w dw56_14 2 rfl) rfl
theorem dX6_runBody_229 : decode cX6_runBody 229 = .ok (.iadd, 1) := dop_96 (dn_w dw56_14 5 rfl)
theorem dX6_runBody_230 : decode cX6_runBody 230 = .ok (.ireturn, 1) := dop_172 (dn_w dw56_14 6 rfl)
theorem dX6_runBody_231 : decode cX6_runBody 231 = .ok (.aload_n 0, 1) := dop_42 (dn_w dw56_14 7 rfl)
theorem dX6_runBody_232 : decode cX6_runBody 232 = .ok (.iconst 0, 1) := dop_3 (dn_w dw56_14 8 rfl)
theorem dX6_runBody_233 : decode cX6_runBody 233 = .ok (.aload_n 0, 1) := dop_42 (dn_w dw56_14 9 rfl)
theorem dX6_runBody_234 : decode cX6_runBody 234 = .ok (.getfield 19, 3) := dop_180 (dn_w dw56_14 10 rfl) rfl
theorem dX6_runBody_237 : decode cX6_runBody 237 = .ok (.iload_n 2, 1) := dop_28 (dn_w dw56_14 13 rfl)
theorem dX6_runBody_238 : decode cX6_runBody 238 = .ok (.iload_n 3, 1) := dop_29 (dn_w dw56_14 14 rfl)
theorem dX6_runBody_239 : decode cX6_runBody 239 = .ok (.invokevirtual 32, 3) := dop_182 (dn_w dw56_14 15 rfl) rfl
theorem dX6_runBody_242 : decode cX6_runBody 242 = .ok (.iconst 2, 1) := dop_5 (dn_w dw56_15 2 rfl)
theorem dX6_runBody_243 : decode cX6_runBody 243 = .ok (.imul, 1) := dop_104 (dn_w dw56_15 3 rfl)
theorem dX6_runBody_244 : decode cX6_runBody 244 = .ok (.ireturn, 1) := dop_172 (dn_w dw56_15 4 rfl)
theorem dX6_runBody_245 : decode cX6_runBody 245 = .ok (.aload_n 0, 1) := dop_42 (dn_w dw56_15 5 rfl)
theorem dX6_runBody_246 : decode cX6_runBody 246 = .ok (.iload_n 2, 1) := dop_28 (dn_w dw56_15 6 rfl)
theorem dX6_runBody_247 : decode cX6_runBody 247 = .ok (.invokevirtual 54, 3) := dop_182 (dn_w dw56_15 7 rfl) rfl
theorem dX6_runBody_250 : decode cX6_runBody 250 = .ok (.ireturn, 1) := dop_172 (dn_w dw56_15 10 rfl)
theorem dX6_runBody_251 : decode cX6_runBody 251 = .ok (.aload_n 0, 1) := dop_42 (dn_w dw56_15 11 rfl)
theorem dX6_runBody_252 : decode cX6_runBody 252 = .ok (.iconst 1, 1) := dop_4 (dn_w dw56_15 12 rfl)
theorem dX6_runBody_253 : decode cX6_runBody 253 = .ok (.aload_n 0, 1) := dop_42 (dn_w dw56_15 13 rfl)
theorem dX6_runBody_254 : decode cX6_runBody 254 = .ok (.getfield 19, 3) := dop_180 (dn_w dw56_15 14 rfl) rfl
theorem dX6_runBody_257 : decode cX6_runBody 257 = .ok (.iload_n 2, 1) := dop_28 (dn_w dw56_16 1 rfl)
theorem dX6_runBody_258 : decode cX6_runBody 258 = .ok (.iload_n 3, 1) := dop_29 (dn_w dw56_16 2 rfl)
theorem dX6_runBody_259 : decode cX6_runBody 259 = .ok (.invokevirtual 32, 3) := dop_182 (dn_w dw56_16 3 rfl) rfl
theorem dX6_runBody_262 : decode cX6_runBody 262 = .ok (.aload_n 0, 1) := dop_42 (dn_w dw56_16 6 rfl)
theorem dX6_runBody_263 : decode cX6_runBody 263 = .ok (.getfield 25, 3) := dop_180 (dn_w dw56_16 7 rfl) rfl
theorem dX6_runBody_266 : decode cX6_runBody 266 = .ok (.ixor, 1) := dop_130 (dn_w dw56_16 10 rfl)
theorem dX6_runBody_267 : decode cX6_runBody 267 = .ok (.ireturn, 1) := dop_172 (dn_w dw56_16 11 rfl)
theorem dX6_runBody_268 : decode cX6_runBody 268 = .ok (.aload_n 0, 1) := dop_42 (dn_w dw56_16 12 rfl)
theorem dX6_runBody_269 : decode cX6_runBody 269 = .ok (.iconst 1, 1) := dop_4 (dn_w dw56_16 13 rfl)
theorem dX6_runBody_270 : decode cX6_runBody 270 = .ok (.getstatic 51, 3) := dop_178 (dn_w dw56_16 14 rfl) rfl
theorem dX6_runBody_273 : decode cX6_runBody 273 = .ok (.iconst 1, 1) := dop_4 (dn_w dw56_17 1 rfl)
theorem dX6_runBody_274 : decode cX6_runBody 274 = .ok (.iaload, 1) := dop_46 (dn_w dw56_17 2 rfl)
theorem dX6_runBody_275 : decode cX6_runBody 275 = .ok (.iload_n 2, 1) := dop_28 (dn_w dw56_17 3 rfl)
theorem dX6_runBody_276 : decode cX6_runBody 276 = .ok (.iload_n 3, 1) := dop_29 (dn_w dw56_17 4 rfl)
theorem dX6_runBody_277 : decode cX6_runBody 277 = .ok (.invokevirtual 32, 3) := dop_182 (dn_w dw56_17 5 rfl) rfl
theorem dX6_runBody_280 : decode cX6_runBody 280 = .ok (.aload_n 0, 1) := dop_42 (dn_w dw56_17 8 rfl)
theorem dX6_runBody_281 : decode cX6_runBody 281 = .ok (.getfield 25, 3) := dop_180 (dn_w dw56_17 9 rfl) rfl
theorem dX6_runBody_284 : decode cX6_runBody 284 = .ok (.isub, 1) := dop_100 (dn_w dw56_17 12 rfl)
theorem dX6_runBody_285 : decode cX6_runBody 285 = .ok (.ireturn, 1) := dop_172 (dn_w dw56_17 13 rfl)
theorem dX6_runBody_286 : decode cX6_runBody 286 = .ok (.aload_n 0, 1) := dop_42 (dn_w dw56_17 14 rfl)
theorem dX6_runBody_287 : decode cX6_runBody 287 = .ok (.iconst 0, 1) := dop_3 (dn_w dw56_17 15 rfl)
theorem dX6_runBody_288 : decode cX6_runBody 288 = .ok (.getstatic 51, 3) := dop_178 (dn_w dw56_18 0 rfl) rfl
theorem dX6_runBody_291 : decode cX6_runBody 291 = .ok (.iconst 2, 1) := dop_5 (dn_w dw56_18 3 rfl)
theorem dX6_runBody_292 : decode cX6_runBody 292 = .ok (.iaload, 1) := dop_46 (dn_w dw56_18 4 rfl)
theorem dX6_runBody_293 : decode cX6_runBody 293 = .ok (.iload_n 2, 1) := dop_28 (dn_w dw56_18 5 rfl)
theorem dX6_runBody_294 : decode cX6_runBody 294 = .ok (.iload_n 3, 1) := dop_29 (dn_w dw56_18 6 rfl)
theorem dX6_runBody_295 : decode cX6_runBody 295 = .ok (.invokevirtual 32, 3) := dop_182 (dn_w dw56_18 7 rfl) rfl
theorem dX6_runBody_298 : decode cX6_runBody 298 = .ok (.iconst 3, 1) := dop_6 (dn_w dw56_18 10 rfl)
theorem dX6_runBody_299 : decode cX6_runBody 299 = .ok (.imul, 1) := dop_104 (dn_w dw56_18 11 rfl)
theorem dX6_runBody_300 : decode cX6_runBody 300 = .ok (.ireturn, 1) := dop_172 (dn_w dw56_18 12 rfl)
theorem dX6_runBody_301 : decode cX6_runBody 301 = .ok (.aload_n 0, 1) := dop_42 (dn_w dw56_18 13 rfl)
theorem dX6_runBody_302 : decode cX6_runBody 302 = .ok (.iconst 3, 1) := dop_6 (dn_w dw56_18 14 rfl)
theorem dX6_runBody_303 : decode cX6_runBody 303 = .ok (.getstatic 51, 3) := dop_178 (dn_w dw56_18 15 rfl) rfl
theorem dX6_runBody_306 : decode cX6_runBody 306 = .ok (.iconst 2, 1) := dop_5 (dn_w dw56_19 2 rfl)
theorem dX6_runBody_307 : decode cX6_runBody 307 = .ok (.iaload, 1) := dop_46 (dn_w dw56_19 3 rfl)
theorem dX6_runBody_308 : decode cX6_runBody 308 = .ok (.iload_n 2, 1) := dop_28 (dn_w dw56_19 4 rfl)
theorem dX6_runBody_309 : decode cX6_runBody 309 = .ok (.iload_n 3, 1) := dop_29 (dn_w dw56_19 5 rfl)
theorem dX6_runBody_310 : decode cX6_runBody 310 = .ok (.invokevirtual 32, 3) := dop_182 (dn_w dw56_19 6 rfl) rfl
theorem dX6_runBody_313 : decode cX6_runBody 313 = .ok (.aload_n 0, 1) := dop_42 (dn_w dw56_19 9 rfl)
theorem dX6_runBody_314 : decode cX6_runBody 314 = .ok (.iconst 2, 1) := dop_5 (dn_w dw56_19 10 rfl)
theorem dX6_runBody_315 : decode cX6_runBody 315 = .ok (.aload_n 0, 1) := dop_42 (dn_w dw56_19 11 rfl)
theorem dX6_runBody_316 : decode cX6_runBody 316 = .ok (.getfield 19, 3) := dop_180 (dn_w dw56_19 12 rfl) rfl
theorem dX6_runBody_319 : decode cX6_runBody 319 = .ok (.aload_n 0, 1) := dop_42 (dn_w dw56_19 15 rfl)
theorem dX6_runBody_320 : decode cX6_runBody 320 = .ok (.getfield 22, 3) := dop_180 (dn_w dw56_20 0 rfl) rfl
theorem dX6_runBody_323 : decode cX6_runBody 323 = .ok (.iload_n 3, 1) := dop_29 (dn_w dw56_20 3 rfl)
theorem dX6_runBody_324 : decode cX6_runBody 324 = .ok (.invokevirtual 32, 3) := dop_182 (dn_w dw56_20 4 rfl) rfl
theorem dX6_runBody_327 : decode cX6_runBody 327 = .ok (.iadd, 1) := dop_96 (dn_w dw56_20 7 rfl)
theorem dX6_runBody_328 : decode cX6_runBody 328 = .ok (.ireturn, 1) := dop_172 (dn_w dw56_20 8 rfl)
theorem dX6_runBody_329 : decode cX6_runBody 329 = .ok (.iconst 0, 1) := dop_3 (dn_w dw56_20 9 rfl)
theorem dX6_runBody_330 : decode cX6_runBody 330 = .ok (.aload_n 0, 1) := dop_42 (dn_w dw56_20 10 rfl)
theorem dX6_runBody_331 : decode cX6_runBody 331 = .ok (.iconst 0, 1) := dop_3 (dn_w dw56_20 11 rfl)
theorem dX6_runBody_332 : decode cX6_runBody 332 = .ok (.getstatic 51, 3) := dop_178 (dn_w dw56_20 12 rfl) rfl
theorem dX6_runBody_335 : decode cX6_runBody 335 = .ok (.iconst 5, 1) := dop_8 (dn_w dw56_20 15 rfl)
theorem dX6_runBody_336 : decode cX6_runBody 336 = .ok (.iaload, 1) := dop_46 (dn_w dw56_21 0 rfl)
theorem dX6_runBody_337 : decode cX6_runBody 337 = .ok (.iload_n 2, 1) := dop_28 (dn_w dw56_21 1 rfl)
theorem dX6_runBody_338 : decode cX6_runBody 338 = .ok (.iload_n 3, 1) := dop_29 (dn_w dw56_21 2 rfl)
theorem dX6_runBody_339 : decode cX6_runBody 339 = .ok (.invokevirtual 32, 3) := dop_182 (dn_w dw56_21 3 rfl) rfl
theorem dX6_runBody_342 : decode cX6_runBody 342 = .ok (.isub, 1) := dop_100 (dn_w dw56_21 6 rfl)
theorem dX6_runBody_343 : decode cX6_runBody 343 = .ok (.ireturn, 1) := dop_172 (dn_w dw56_21 7 rfl)
theorem dX6_runBody_344 : decode cX6_runBody 344 = .ok (.aload_n 0, 1) := dop_42 (dn_w dw56_21 8 rfl)
theorem dX6_runBody_345 : decode cX6_runBody 345 = .ok (.iconst 1, 1) := dop_4 (dn_w dw56_21 9 rfl)
theorem dX6_runBody_346 : decode cX6_runBody 346 = .ok (.getstatic 51, 3) := dop_178 (dn_w dw56_21 10 rfl) rfl
theorem dX6_runBody_349 : decode cX6_runBody 349 = .ok (.iconst 5, 1) := dop_8 (dn_w dw56_21 13 rfl)
theorem dX6_runBody_350 : decode cX6_runBody 350 = .ok (.iaload, 1) := dop_46 (dn_w dw56_21 14 rfl)
theorem dX6_runBody_351 : decode cX6_runBody 351 = .ok (.iload_n 2, 1) := dop_28 (dn_w dw56_21 15 rfl)
theorem dX6_runBody_352 : decode cX6_runBody 352 = .ok (.iload_n 3, 1) := dop_29 (dn_w dw56_22 0 rfl)
theorem dX6_runBody_353 : decode cX6_runBody 353 = .ok (.invokevirtual 32, 3) := dop_182 (dn_w dw56_22 1 rfl) rfl
theorem dX6_runBody_356 : decode cX6_runBody 356 = .ok (.aload_n 0, 1) := dop_42 (dn_w dw56_22 4 rfl)
theorem dX6_runBody_357 : decode cX6_runBody 357 = .ok (.iconst 0, 1) := dop_3 (dn_w dw56_22 5 rfl)
theorem dX6_runBody_358 : decode cX6_runBody 358 = .ok (.aload_n 0, 1) := dop_42 (dn_w dw56_22 6 rfl)
theorem dX6_runBody_359 : decode cX6_runBody 359 = .ok (.getfield 19, 3) := dop_180 (dn_w dw56_22 7 rfl) rfl
theorem dX6_runBody_362 : decode cX6_runBody 362 = .ok (.aload_n 0, 1) := dop_42 (dn_w dw56_22 10 rfl)
theorem dX6_runBody_363 : decode cX6_runBody 363 = .ok (.getfield 22, 3) := dop_180 (dn_w dw56_22 11 rfl) rfl
theorem dX6_runBody_366 : decode cX6_runBody 366 = .ok (.iload_n 3, 1) := dop_29 (dn_w dw56_22 14 rfl)
theorem dX6_runBody_367 : decode cX6_runBody 367 = .ok (.invokevirtual 32, 3) := dop_182 (dn_w dw56_22 15 rfl) rfl
theorem dX6_runBody_370 : decode cX6_runBody 370 = .ok (.iadd, 1) := dop_96 (dn_w dw56_23 2 rfl)
theorem dX6_runBody_371 : decode cX6_runBody 371 = .ok (.ireturn, 1) := dop_172 (dn_w dw56_23 3 rfl)
theorem dX6_runBody_372 : decode cX6_runBody 372 = .ok (.aload_n 0, 1) := dop_42 (dn_w dw56_23 4 rfl)
theorem dX6_runBody_373 : decode cX6_runBody 373 = .ok (.iconst 2, 1) := dop_5 (dn_w dw56_23 5 rfl)
theorem dX6_runBody_374 : decode cX6_runBody 374 = .ok (.getstatic 51, 3) := dop_178 (dn_w dw56_23 6 rfl) rfl
theorem dX6_runBody_377 : decode cX6_runBody 377 = .ok (.iconst 4, 1) := dop_7 (dn_w dw56_23 9 rfl)
theorem dX6_runBody_378 : decode cX6_runBody 378 = .ok (.iaload, 1) := dop_46 (dn_w dw56_23 10 rfl)
theorem dX6_runBody_379 : decode cX6_runBody 379 = .ok (.iload_n 2, 1) := dop_28 (dn_w dw56_23 11 rfl)
theorem dX6_runBody_380 : decode cX6_runBody 380 = .ok (.iconst 2, 1) := dop_5 (dn_w dw56_23 12 rfl)
theorem dX6_runBody_381 : decode cX6_runBody 381 = .ok (.iadd, 1) := dop_96 (dn_w dw56_23 13 rfl)
theorem dX6_runBody_382 : decode cX6_runBody 382 = .ok (.iload_n 3, 1) := dop_29 (dn_w dw56_23 14 rfl)
theorem dX6_runBody_383 : decode cX6_runBody 383 = .ok (.invokevirtual 32, 3) := dop_182 (dn_w dw56_23 15 rfl) rfl
theorem dX6_runBody_386 : decode cX6_runBody 386 = .ok (.iconst 1, 1) := dop_4 (dn_w dw56_24 2 rfl)
theorem dX6_runBody_387 : decode cX6_runBody 387 = .ok (.ixor, 1) := dop_130 (dn_w dw56_24 3 rfl)
theorem dX6_runBody_388 : decode cX6_runBody 388 = .ok (.ireturn, 1) := dop_172 (dn_w dw56_24 4 rfl)
theorem dX6_runBody_389 : decode cX6_runBody 389 = .ok (.aload_n 0, 1) := dop_42 (dn_w dw56_24 5 rfl)
theorem dX6_runBody_390 : decode cX6_runBody 390 = .ok (.iconst 0, 1) := dop_3 (dn_w dw56_24 6 rfl)
theorem dX6_runBody_391 : decode cX6_runBody 391 = .ok (.getstatic 51, 3) := dop_178 (dn_w dw56_24 7 rfl) rfl
theorem dX6_runBody_394 : decode cX6_runBody 394 = .ok (.iconst 4, 1) := dop_7 (dn_w dw56_24 10 rfl)
theorem dX6_runBody_395 : decode cX6_runBody 395 = .ok (.iaload, 1) := dop_46 (dn_w dw56_24 11 rfl)
theorem dX6_runBody_396 : decode cX6_runBody 396 = .ok (.iload_n 2, 1) := dop_28 (dn_w dw56_24 12 rfl)
theorem dX6_runBody_397 : decode cX6_runBody 397 = .ok (.iload_n 3, 1) := dop_29 (dn_w dw56_24 13 rfl)
theorem dX6_runBody_398 : decode cX6_runBody 398 = .ok (.invokevirtual 32, 3) := dop_182 (dn_w dw56_24 14 rfl) rfl
theorem dX6_runBody_401 : decode cX6_runBody 401 = .ok (.aload_n 0, 1) := dop_42 (dn_w dw56_25 1 rfl)
theorem dX6_runBody_402 : decode cX6_runBody 402 = .ok (.getfield 22, 3) := dop_180 (dn_w dw56_25 2 rfl) rfl
theorem dX6_runBody_405 : decode cX6_runBody 405 = .ok (.isub, 1) := dop_100 (dn_w dw56_25 5 rfl)
theorem dX6_runBody_406 : decode cX6_runBody 406 = .ok (.ireturn, 1) := dop_172 (dn_w dw56_25 6 rfl)
theorem dX6_runBody_407 : decode cX6_runBody 407 = .ok (.aload_n 0, 1) := dop_42 (dn_w dw56_25 7 rfl)
theorem dX6_runBody_408 : decode cX6_runBody 408 = .ok (.iconst 3, 1) := dop_6 (dn_w dw56_25 8 rfl)
theorem dX6_runBody_409 : decode cX6_runBody 409 = .ok (.getstatic 51, 3) := dop_178 (dn_w dw56_25 9 rfl) rfl
theorem dX6_runBody_412 : decode cX6_runBody 412 = .ok (.iconst 3, 1) := dop_6 (dn_w dw56_25 12 rfl)
theorem dX6_runBody_413 : decode cX6_runBody 413 = .ok (.iaload, 1) := dop_46 (dn_w dw56_25 13 rfl)
theorem dX6_runBody_414 : decode cX6_runBody 414 = .ok (.iload_n 2, 1) := dop_28 (dn_w dw56_25 14 rfl)
theorem dX6_runBody_415 : decode cX6_runBody 415 = .ok (.iload_n 3, 1) := dop_29 (dn_w dw56_25 15 rfl)
theorem dX6_runBody_416 : decode cX6_runBody 416 = .ok (.invokevirtual 32, 3) := dop_182 (dn_w dw56_26 0 rfl) rfl
theorem dX6_runBody_419 : decode cX6_runBody 419 = .ok (.iconst 2, 1) := dop_5 (dn_w dw56_26 3 rfl)
theorem dX6_runBody_420 : decode cX6_runBody 420 = .ok (.imul, 1) := dop_104 (dn_w dw56_26 4 rfl)
theorem dX6_runBody_421 : decode cX6_runBody 421 = .ok (.ireturn, 1) := dop_172 (dn_w dw56_26 5 rfl)
theorem dX6_runBody_422 : decode cX6_runBody 422 = .ok (.aload_n 0, 1) := dop_42 (dn_w dw56_26 6 rfl)
theorem dX6_runBody_423 : decode cX6_runBody 423 = .ok (.iconst 2, 1) := dop_5 (dn_w dw56_26 7 rfl)
theorem dX6_runBody_424 : decode cX6_runBody 424 = .ok (.getstatic 51, 3) := dop_178 (dn_w dw56_26 8 rfl) rfl
theorem dX6_runBody_427 : decode cX6_runBody 427 = .ok (.iconst 3, 1) := dop_6 (dn_w dw56_26 11 rfl)
theorem dX6_runBody_428 : decode cX6_runBody 428 = .ok (.iaload, 1) := dop_46 (dn_w dw56_26 12 rfl)
theorem dX6_runBody_429 : decode cX6_runBody 429 = .ok (.iload_n 2, 1) := dop_28 (dn_w dw56_26 13 rfl)
theorem dX6_runBody_430 : decode cX6_runBody 430 = .ok (.iload_n 3, 1) := dop_29 (dn_w dw56_26 14 rfl)
theorem dX6_runBody_431 : decode cX6_runBody 431 = .ok (.invokevirtual 32, 3) := dop_182 (dn_w dw56_26 15 rfl) rfl
theorem dX6_runBody_434 : decode cX6_runBody 434 = .ok (.aload_n 0, 1) := dop_42 (dn_w dw56_27 2 rfl)
theorem dX6_runBody_435 : decode cX6_runBody 435 = .ok (.iconst 0, 1) := dop_3 (dn_w dw56_27 3 rfl)
theorem dX6_runBody_436 : decode cX6_runBody 436 = .ok (.aload_n 0, 1) := dop_42 (dn_w dw56_27 4 rfl)
theorem dX6_runBody_437 : decode cX6_runBody 437 = .ok (.getfield 19, 3) := dop_180 (dn_w dw56_27 5 rfl) rfl
theorem dX6_runBody_440 : decode cX6_runBody 440 = .ok (.aload_n 0, 1) := dop_42 (dn_w dw56_27 8 rfl)
theorem dX6_runBody_441 : decode cX6_runBody 441 = .ok (.getfield 25, 3) := dop_180 (dn_w dw56_27 9 rfl) rfl
theorem dX6_runBody_444 : decode cX6_runBody 444 = .ok (.iload_n 3, 1) := dop_29 (dn_w dw56_27 12 rfl)
theorem dX6_runBody_445 : decode cX6_runBody 445 = .ok (.invokevirtual 32, 3) := dop_182 (dn_w dw56_27 13 rfl) rfl
theorem dX6_runBody_448 : decode cX6_runBody 448 = .ok (.iadd, 1) := dop_96 (dn_w dw56_28 0 rfl)
theorem dX6_runBody_449 : decode cX6_runBody 449 = .ok (.ireturn, 1) := dop_172 (dn_w dw56_28 1 rfl)
theorem dX6_runBody_450 : decode cX6_runBody 450 = .ok (.iconst 0, 1) := dop_3 (dn_w dw56_28 2 rfl)
theorem dX6_runBody_451 : decode cX6_runBody 451 = .ok (.ireturn, 1) := dop_172 (dn_w dw56_28 3 rfl)
noncomputable def dt57_1 : List Nat := 181 :: 0 :: 28 :: 3 :: 172 :: 27 :: 28 :: 108 :: 172 :: []
noncomputable def dt57_0 : List Nat := 42 :: 180 :: 0 :: 25 :: 42 :: 180 :: 0 :: 22 :: 100 :: 61 :: 28 :: 154 :: 0 :: 10 :: 42 :: 4 :: dt57_1
theorem dw57_0 : dn cX6_shared 0 = dt57_0 := by decide +kernel
theorem dw57_1 : dn cX6_shared 16 = dt57_1 := dn_w dw57_0 16 rfl
theorem dX6_shared_0 : decode cX6_shared 0 = .ok (.aload_n 0, 1) := dop_42 (dn_w dw57_0 0 rfl)
theorem dX6_shared_1 : decode cX6_shared 1 = .ok (.getfield 25, 3) := dop_180 (dn_w dw57_0 1 rfl) rfl
theorem dX6_shared_4 : decode cX6_shared 4 = .ok (.aload_n 0, 1) := dop_42 (dn_w dw57_0 4 rfl)
theorem dX6_shared_5 : decode cX6_shared 5 = .ok (.getfield 22, 3) := dop_180 (dn_w dw57_0 5 rfl) rfl
theorem dX6_shared_8 : decode cX6_shared 8 = .ok (.isub, 1) := dop_100 (dn_w dw57_0 8 rfl)
theorem dX6_shared_9 : decode cX6_shared 9 = .ok (.istore_n 2, 1) := dop_61 (dn_w dw57_0 9 rfl)
theorem dX6_shared_10 : decode cX6_shared 10 = .ok (.iload_n 2, 1) := dop_28 (dn_w dw57_0 10 rfl)
theorem dX6_shared_11 : decode cX6_shared 11 = .ok (.ifCond .ne 10, 3) := dop_154 (dn_w dw57_0 11 rfl) rfl
theorem dX6_shared_14 : decode cX6_shared 14 = .ok (.aload_n 0, 1) := dop_42 (dn_w dw57_0 14 rfl)
theorem dX6_shared_15 : decode cX6_shared 15 = .ok (.iconst 1, 1) := dop_4 (dn_w dw57_0 15 rfl)
theorem dX6_shared_16 : decode cX6_shared 16 = .ok (.putfield 28, 3) := dop_181 (dn_w dw57_1 0 rfl) rfl
theorem dX6_shared_19 : decode cX6_shared 19 = .ok (.iconst 0, 1) := dop_3 (dn_w dw57_1 3 rfl)
theorem dX6_shared_20 : decode cX6_shared 20 = .ok (.ireturn, 1) := dop_172 (dn_w dw57_1 4 rfl)
theorem dX6_shared_21 : decode cX6_shared 21 = .ok (.iload_n 1, 1) := dop_27 (dn_w dw57_1 5 rfl)
theorem dX6_shared_22 : decode cX6_shared 22 = .ok (.iload_n 2, 1) := dop_28 (dn_w dw57_1 6 rfl)
theorem dX6_shared_23 : decode cX6_shared 23 = .ok (.idiv, 1) := dop_108 (dn_w dw57_1 7 rfl)
theorem dX6_shared_24 : decode cX6_shared 24 = .ok (.ireturn, 1) := dop_172 (dn_w dw57_1 8 rfl)
noncomputable def dt58_0 : List Nat := 42 :: 183 :: 0 :: 3 :: 42 :: 187 :: 0 :: 9 :: 89 :: 183 :: 0 :: 11 :: 181 :: 0 :: 12 :: 177 :: []
theorem dw58_0 : dn cX7_init 0 = dt58_0 := by decide +kernel
theorem dX7_init_0 : decode cX7_init 0 = .ok (.aload_n 0, 1) := dop_42 (dn_w dw58_0 0 rfl)
theorem dX7_init_1 : decode cX7_init 1 = .ok (.invokespecial 3, 3) := dop_183 (dn_w dw58_0 1 rfl) rfl
theorem dX7_init_4 : decode cX7_init 4 = .ok (.aload_n 0, 1) := dop_42 (dn_w dw58_0 4 rfl)
theorem dX7_init_5 : decode cX7_init 5 = .ok (.new 9, 3) := dop_187 (dn_w dw58_0 5 rfl) rfl
theorem dX7_init_8 : decode cX7_init 8 = .ok (.dup, 1) := dop_89 (dn_w dw58_0 8 rfl)
theorem dX7_init_9 : decode cX7_init 9 = .ok (.invokespecial 11, 3) := dop_183 (dn_w dw58_0 9 rfl) rfl
theorem dX7_init_12 : decode cX7_init 12 = .ok (.putfield 12, 3) := dop_181 (dn_w dw58_0 12 rfl) rfl
theorem dX7_init_15 : decode cX7_init 15 = .ok (.return_, 1) := dop_177 (dn_w dw58_0 15 rfl)
noncomputable def dt59_5 : List Nat := 132 :: 5 :: 1 :: 167 :: 255 :: 222 :: 21 :: 4 :: 172 :: []
noncomputable def dt59_4 : List Nat := 24 :: 21 :: 4 :: 42 :: 180 :: 0 :: 12 :: 182 :: 0 :: 30 :: 184 :: 0 :: 34 :: 96 :: 54 :: 4 :: dt59_5
noncomputable def dt59_3 : List Nat := 5 :: 21 :: 5 :: 29 :: 162 :: 0 :: 34 :: 42 :: 180 :: 0 :: 12 :: 182 :: 0 :: 26 :: 154 :: 0 :: dt59_4
noncomputable def dt59_2 : List Nat := 4 :: 182 :: 0 :: 22 :: 87 :: 132 :: 4 :: 1 :: 167 :: 255 :: 227 :: 3 :: 54 :: 4 :: 3 :: 54 :: dt59_3
noncomputable def dt59_1 : List Nat := 0 :: 28 :: 28 :: 21 :: 4 :: 122 :: 4 :: 126 :: 153 :: 0 :: 13 :: 42 :: 180 :: 0 :: 12 :: 21 :: dt59_2
noncomputable def dt59_0 : List Nat := 42 :: 180 :: 0 :: 12 :: 43 :: 182 :: 0 :: 18 :: 3 :: 54 :: 4 :: 21 :: 4 :: 16 :: 6 :: 162 :: dt59_1
theorem dw59_0 : dn cX7_thereWith 0 = dt59_0 := by decide +kernel
theorem dw59_1 : dn cX7_thereWith 16 = dt59_1 := dn_w dw59_0 16 rfl
theorem dw59_2 : dn cX7_thereWith 32 = dt59_2 := dn_w dw59_1 16 rfl
theorem dw59_3 : dn cX7_thereWith 48 = dt59_3 := dn_w dw59_2 16 rfl
theorem dw59_4 : dn cX7_thereWith 64 = dt59_4 := dn_w dw59_3 16 rfl
theorem dw59_5 : dn cX7_thereWith 80 = dt59_5 := dn_w dw59_4 16 rfl
theorem dX7_thereWith_0 : decode cX7_thereWith 0 = .ok (.aload_n 0, 1) := dop_42 (dn_w dw59_0 0 rfl)
theorem dX7_thereWith_1 : decode cX7_thereWith 1 = .ok (.getfield 12, 3) := dop_180 (dn_w dw59_0 1 rfl) rfl
theorem dX7_thereWith_4 : decode cX7_thereWith 4 = .ok (.aload_n 1, 1) := dop_43 (dn_w dw59_0 4 rfl)
theorem dX7_thereWith_5 : decode cX7_thereWith 5 = .ok (.invokevirtual 18, 3) := dop_182 (dn_w dw59_0 5 rfl) rfl
theorem dX7_thereWith_8 : decode cX7_thereWith 8 = .ok (.iconst 0, 1) := dop_3 (dn_w dw59_0 8 rfl)
theorem dX7_thereWith_9 : decode cX7_thereWith 9 = .ok (.istore 4, 2) := dop_54 (dn_w dw59_0 9 rfl)
theorem dX7_thereWith_11 : decode cX7_thereWith 11 = .ok (.iload 4, 2) := dop_21 (dn_w dw59_0 11 rfl)
theorem dX7_thereWith_13 : decode cX7_thereWith 13 = .ok (.bipush 6, 2) := dop_16 (dn_w dw59_0 13 rfl) rfl
theorem dX7_thereWith_15 : decode cX7_thereWith 15 = .ok (.if_icmp .ge 28, 3) := dop_162 (dn_w dw59_0 15 rfl) rfl
theorem dX7_thereWith_18 : decode cX7_thereWith 18 = .ok (.iload_n 2, 1) := dop_28 (dn_w dw59_1 2 rfl)
theorem dX7_thereWith_19 : decode cX7_thereWith 19 = .ok (.iload 4, 2) := dop_21 (dn_w dw59_1 3 rfl)
theorem dX7_thereWith_21 : decode cX7_thereWith 21 = .ok (.ishr, 1) := dop_122 (dn_w dw59_1 5 rfl)
theorem dX7_thereWith_22 : decode cX7_thereWith 22 = .ok (.iconst 1, 1) := dop_4 (dn_w dw59_1 6 rfl)
theorem dX7_thereWith_23 : decode cX7_thereWith 23 = .ok (.iand, 1) := dop_126 (dn_w dw59_1 7 rfl)
theorem dX7_thereWith_24 : decode cX7_thereWith 24 = .ok (.ifCond .eq 13, 3) := dop_153 (dn_w dw59_1 8 rfl) rfl
theorem dX7_thereWith_27 : decode cX7_thereWith 27 = .ok (.aload_n 0, 1) := dop_42 (dn_w dw59_1 11 rfl)
theorem dX7_thereWith_28 : decode cX7_thereWith 28 = .ok (.getfield 12, 3) := dop_180 (dn_w dw59_1 12 rfl) rfl
theorem dX7_thereWith_31 : decode cX7_thereWith 31 = .ok (.iload 4, 2) := dop_21 (dn_w dw59_1 15 rfl)
theorem dX7_thereWith_33 : decode cX7_thereWith 33 = .ok (.invokevirtual 22, 3) := dop_182 (dn_w dw59_2 1 rfl) rfl
theorem dX7_thereWith_36 : decode cX7_thereWith 36 = .ok (.pop, 1) := dop_87 (dn_w dw59_2 4 rfl)
theorem dX7_thereWith_37 : decode cX7_thereWith 37 = .ok (.iinc 4 1, 3) := dop_132 (dn_w dw59_2 5 rfl) rfl
theorem dX7_thereWith_40 : decode cX7_thereWith 40 = .ok (.goto (-29), 3) := dop_167 (dn_w dw59_2 8 rfl) rfl
theorem dX7_thereWith_43 : decode cX7_thereWith 43 = .ok (.iconst 0, 1) := dop_3 (dn_w dw59_2 11 rfl)
theorem dX7_thereWith_44 : decode cX7_thereWith 44 = .ok (.istore 4, 2) := dop_54 (dn_w dw59_2 12 rfl)
theorem dX7_thereWith_46 : decode cX7_thereWith 46 = .ok (.iconst 0, 1) := dop_3 (dn_w dw59_2 14 rfl)
theorem dX7_thereWith_47 : decode cX7_thereWith 47 = .ok (.istore 5, 2) := dop_54 (dn_w dw59_2 15 rfl)
theorem dX7_thereWith_49 : decode cX7_thereWith 49 = .ok (.iload 5, 2) := dop_21 (dn_w dw59_3 1 rfl)
theorem dX7_thereWith_51 : decode cX7_thereWith 51 = .ok (.iload_n 3, 1) := dop_29 (dn_w dw59_3 3 rfl)
theorem dX7_thereWith_52 : decode cX7_thereWith 52 = .ok (.if_icmp .ge 34, 3) := dop_162 (dn_w dw59_3 4 rfl) rfl
theorem dX7_thereWith_55 : decode cX7_thereWith 55 = .ok (.aload_n 0, 1) := dop_42 (dn_w dw59_3 7 rfl)
theorem dX7_thereWith_56 : decode cX7_thereWith 56 = .ok (.getfield 12, 3) := dop_180 (dn_w dw59_3 8 rfl) rfl
theorem dX7_thereWith_59 : decode cX7_thereWith 59 = .ok (.invokevirtual 26, 3) := dop_182 (dn_w dw59_3 11 rfl) rfl
theorem dX7_thereWith_62 : decode cX7_thereWith 62 = .ok (.ifCond .ne 24, 3) := dop_154 (dn_w dw59_3 14 rfl) rfl
theorem dX7_thereWith_65 : decode cX7_thereWith 65 = .ok (.iload 4, 2) := dop_21 (dn_w dw59_4 1 rfl)
theorem dX7_thereWith_67 : decode cX7_thereWith 67 = .ok (.aload_n 0, 1) := dop_42 (dn_w dw59_4 3 rfl)
theorem dX7_thereWith_68 : decode cX7_thereWith 68 = .ok (.getfield 12, 3) := dop_180 (dn_w dw59_4 4 rfl) rfl
theorem dX7_thereWith_71 : decode cX7_thereWith 71 = .ok (.invokevirtual 30, 3) := dop_182 (dn_w dw59_4 7 rfl) rfl
theorem dX7_thereWith_74 : decode cX7_thereWith 74 = .ok (.invokestatic 34, 3) := dop_184 (dn_w dw59_4 10 rfl) rfl
theorem dX7_thereWith_77 : decode cX7_thereWith 77 = .ok (.iadd, 1) := dop_96 (dn_w dw59_4 13 rfl)
theorem dX7_thereWith_78 : decode cX7_thereWith 78 = .ok (.istore 4, 2) := dop_54 (dn_w dw59_4 14 rfl)
theorem dX7_thereWith_80 : decode cX7_thereWith 80 = .ok (.iinc 5 1, 3) := dop_132 (dn_w dw59_5 0 rfl) rfl
theorem dX7_thereWith_83 : decode cX7_thereWith 83 = .ok (.goto (-34), 3) := dop_167 (dn_w dw59_5 3 rfl) rfl
theorem dX7_thereWith_86 : decode cX7_thereWith 86 = .ok (.iload 4, 2) := dop_21 (dn_w dw59_5 6 rfl)
theorem dX7_thereWith_88 : decode cX7_thereWith 88 = .ok (.ireturn, 1) := dop_172 (dn_w dw59_5 8 rfl)
noncomputable def dt60_5 : List Nat := 255 :: 192 :: 21 :: 4 :: 172 :: []
noncomputable def dt60_4 : List Nat := 34 :: 162 :: 0 :: 11 :: 21 :: 6 :: 54 :: 4 :: 21 :: 7 :: 54 :: 5 :: 132 :: 6 :: 1 :: 167 :: dt60_5
noncomputable def dt60_3 : List Nat := 21 :: 7 :: 21 :: 5 :: 160 :: 0 :: 24 :: 21 :: 6 :: 184 :: 0 :: 34 :: 21 :: 4 :: 184 :: 0 :: dt60_4
noncomputable def dt60_2 : List Nat := 43 :: 21 :: 6 :: 29 :: 182 :: 0 :: 39 :: 54 :: 7 :: 21 :: 7 :: 21 :: 5 :: 163 :: 0 :: 23 :: dt60_3
noncomputable def dt60_1 : List Nat := 6 :: 16 :: 64 :: 162 :: 0 :: 63 :: 21 :: 6 :: 184 :: 0 :: 34 :: 28 :: 163 :: 0 :: 48 :: 42 :: dt60_2
noncomputable def dt60_0 : List Nat := 3 :: 54 :: 4 :: 42 :: 43 :: 3 :: 29 :: 182 :: 0 :: 39 :: 54 :: 5 :: 4 :: 54 :: 6 :: 21 :: dt60_1
theorem dw60_0 : dn cX7_bestHouses 0 = dt60_0 := by decide +kernel
theorem dw60_1 : dn cX7_bestHouses 16 = dt60_1 := dn_w dw60_0 16 rfl
theorem dw60_2 : dn cX7_bestHouses 32 = dt60_2 := dn_w dw60_1 16 rfl
theorem dw60_3 : dn cX7_bestHouses 48 = dt60_3 := dn_w dw60_2 16 rfl
theorem dw60_4 : dn cX7_bestHouses 64 = dt60_4 := dn_w dw60_3 16 rfl
theorem dw60_5 : dn cX7_bestHouses 80 = dt60_5 := dn_w dw60_4 16 rfl
theorem dX7_bestHouses_0 : decode cX7_bestHouses 0 = .ok (.iconst 0, 1) := dop_3 (dn_w dw60_0 0 rfl)
theorem dX7_bestHouses_1 : decode cX7_bestHouses 1 = .ok (.istore 4, 2) := dop_54 (dn_w dw60_0 1 rfl)
theorem dX7_bestHouses_3 : decode cX7_bestHouses 3 = .ok (.aload_n 0, 1) := dop_42 (dn_w dw60_0 3 rfl)
theorem dX7_bestHouses_4 : decode cX7_bestHouses 4 = .ok (.aload_n 1, 1) := dop_43 (dn_w dw60_0 4 rfl)
theorem dX7_bestHouses_5 : decode cX7_bestHouses 5 = .ok (.iconst 0, 1) := dop_3 (dn_w dw60_0 5 rfl)
theorem dX7_bestHouses_6 : decode cX7_bestHouses 6 = .ok (.iload_n 3, 1) := dop_29 (dn_w dw60_0 6 rfl)
theorem dX7_bestHouses_7 : decode cX7_bestHouses 7 = .ok (.invokevirtual 39, 3) := dop_182 (dn_w dw60_0 7 rfl) rfl
theorem dX7_bestHouses_10 : decode cX7_bestHouses 10 = .ok (.istore 5, 2) := dop_54 (dn_w dw60_0 10 rfl)
theorem dX7_bestHouses_12 : decode cX7_bestHouses 12 = .ok (.iconst 1, 1) := dop_4 (dn_w dw60_0 12 rfl)
theorem dX7_bestHouses_13 : decode cX7_bestHouses 13 = .ok (.istore 6, 2) := dop_54 (dn_w dw60_0 13 rfl)
theorem dX7_bestHouses_15 : decode cX7_bestHouses 15 = .ok (.iload 6, 2) := dop_21 (dn_w dw60_0 15 rfl)
theorem dX7_bestHouses_17 : decode cX7_bestHouses 17 = .ok (.bipush 64, 2) := dop_16 (dn_w dw60_1 1 rfl) rfl
theorem dX7_bestHouses_19 : decode cX7_bestHouses 19 = .ok (.if_icmp .ge 63, 3) := dop_162 (dn_w dw60_1 3 rfl) rfl
theorem dX7_bestHouses_22 : decode cX7_bestHouses 22 = .ok (.iload 6, 2) := dop_21 (dn_w dw60_1 6 rfl)
theorem dX7_bestHouses_24 : decode cX7_bestHouses 24 = .ok (.invokestatic 34, 3) := dop_184 (dn_w dw60_1 8 rfl) rfl
theorem dX7_bestHouses_27 : decode cX7_bestHouses 27 = .ok (.iload_n 2, 1) := dop_28 (dn_w dw60_1 11 rfl)
theorem dX7_bestHouses_28 : decode cX7_bestHouses 28 = .ok (.if_icmp .gt 48, 3) := dop_163 (dn_w dw60_1 12 rfl) rfl
theorem dX7_bestHouses_31 : decode cX7_bestHouses 31 = .ok (.aload_n 0, 1) := dop_42 (dn_w dw60_1 15 rfl)
theorem dX7_bestHouses_32 : decode cX7_bestHouses 32 = .ok (.aload_n 1, 1) := dop_43 (dn_w dw60_2 0 rfl)
theorem dX7_bestHouses_33 : decode cX7_bestHouses 33 = .ok (.iload 6, 2) := dop_21 (dn_w dw60_2 1 rfl)
theorem dX7_bestHouses_35 : decode cX7_bestHouses 35 = .ok (.iload_n 3, 1) := dop_29 (dn_w dw60_2 3 rfl)
theorem dX7_bestHouses_36 : decode cX7_bestHouses 36 = .ok (.invokevirtual 39, 3) := dop_182 (dn_w dw60_2 4 rfl) rfl
theorem dX7_bestHouses_39 : decode cX7_bestHouses 39 = .ok (.istore 7, 2) := dop_54 (dn_w dw60_2 7 rfl)
theorem dX7_bestHouses_41 : decode cX7_bestHouses 41 = .ok (.iload 7, 2) := dop_21 (dn_w dw60_2 9 rfl)
theorem dX7_bestHouses_43 : decode cX7_bestHouses 43 = .ok (.iload 5, 2) := dop_21 (dn_w dw60_2 11 rfl)
theorem dX7_bestHouses_45 : decode cX7_bestHouses 45 = .ok (.if_icmp .gt 23, 3) := dop_163 (dn_w dw60_2 13 rfl) rfl
theorem dX7_bestHouses_48 : decode cX7_bestHouses 48 = .ok (.iload 7, 2) := dop_21 (dn_w dw60_3 0 rfl)
theorem dX7_bestHouses_50 : decode cX7_bestHouses 50 = .ok (.iload 5, 2) := dop_21 (dn_w dw60_3 2 rfl)
theorem dX7_bestHouses_52 : decode cX7_bestHouses 52 = .ok (.if_icmp .ne 24, 3) := dop_160 (dn_w dw60_3 4 rfl) rfl
theorem dX7_bestHouses_55 : decode cX7_bestHouses 55 = .ok (.iload 6, 2) := dop_21 (dn_w dw60_3 7 rfl)
theorem dX7_bestHouses_57 : decode cX7_bestHouses 57 = .ok (.invokestatic 34, 3) := dop_184 (dn_w dw60_3 9 rfl) rfl
theorem dX7_bestHouses_60 : decode cX7_bestHouses 60 = .ok (.iload 4, 2) := dop_21 (dn_w dw60_3 12 rfl)
theorem dX7_bestHouses_62 : decode cX7_bestHouses 62 = .ok (.invokestatic 34, 3) := dop_184 (dn_w dw60_3 14 rfl) rfl
theorem dX7_bestHouses_65 : decode cX7_bestHouses 65 = .ok (.if_icmp .ge 11, 3) := dop_162 (dn_w dw60_4 1 rfl) rfl
theorem dX7_bestHouses_68 : decode cX7_bestHouses 68 = .ok (.iload 6, 2) := dop_21 (dn_w dw60_4 4 rfl)
theorem dX7_bestHouses_70 : decode cX7_bestHouses 70 = .ok (.istore 4, 2) := dop_54 (dn_w dw60_4 6 rfl)
theorem dX7_bestHouses_72 : decode cX7_bestHouses 72 = .ok (.iload 7, 2) := dop_21 (dn_w dw60_4 8 rfl)
theorem dX7_bestHouses_74 : decode cX7_bestHouses 74 = .ok (.istore 5, 2) := dop_54 (dn_w dw60_4 10 rfl)
theorem dX7_bestHouses_76 : decode cX7_bestHouses 76 = .ok (.iinc 6 1, 3) := dop_132 (dn_w dw60_4 12 rfl) rfl
theorem dX7_bestHouses_79 : decode cX7_bestHouses 79 = .ok (.goto (-64), 3) := dop_167 (dn_w dw60_4 15 rfl) rfl
theorem dX7_bestHouses_82 : decode cX7_bestHouses 82 = .ok (.iload 4, 2) := dop_21 (dn_w dw60_5 2 rfl)
theorem dX7_bestHouses_84 : decode cX7_bestHouses 84 = .ok (.ireturn, 1) := dop_172 (dn_w dw60_5 4 rfl)
noncomputable def dt61_3 : List Nat := 180 :: 0 :: 12 :: 182 :: 0 :: 30 :: 87 :: 132 :: 3 :: 1 :: 167 :: 255 :: 208 :: 16 :: 253 :: 172 :: []
noncomputable def dt61_2 : List Nat := 4 :: 46 :: 161 :: 0 :: 13 :: 42 :: 180 :: 0 :: 12 :: 180 :: 0 :: 50 :: 4 :: 100 :: 172 :: 42 :: dt61_3
noncomputable def dt61_1 : List Nat := 42 :: 180 :: 0 :: 12 :: 180 :: 0 :: 43 :: 28 :: 46 :: 42 :: 180 :: 0 :: 12 :: 180 :: 0 :: 47 :: dt61_2
noncomputable def dt61_0 : List Nat := 42 :: 180 :: 0 :: 12 :: 43 :: 182 :: 0 :: 18 :: 3 :: 62 :: 29 :: 16 :: 40 :: 163 :: 0 :: 48 :: dt61_1
theorem dw61_0 : dn cX7_dayForGood 0 = dt61_0 := by decide +kernel
theorem dw61_1 : dn cX7_dayForGood 16 = dt61_1 := dn_w dw61_0 16 rfl
theorem dw61_2 : dn cX7_dayForGood 32 = dt61_2 := dn_w dw61_1 16 rfl
theorem dw61_3 : dn cX7_dayForGood 48 = dt61_3 := dn_w dw61_2 16 rfl
theorem dX7_dayForGood_0 : decode cX7_dayForGood 0 = .ok (.aload_n 0, 1) := dop_42 (dn_w dw61_0 0 rfl)
theorem dX7_dayForGood_1 : decode cX7_dayForGood 1 = .ok (.getfield 12, 3) := dop_180 (dn_w dw61_0 1 rfl) rfl
theorem dX7_dayForGood_4 : decode cX7_dayForGood 4 = .ok (.aload_n 1, 1) := dop_43 (dn_w dw61_0 4 rfl)
theorem dX7_dayForGood_5 : decode cX7_dayForGood 5 = .ok (.invokevirtual 18, 3) := dop_182 (dn_w dw61_0 5 rfl) rfl
theorem dX7_dayForGood_8 : decode cX7_dayForGood 8 = .ok (.iconst 0, 1) := dop_3 (dn_w dw61_0 8 rfl)
theorem dX7_dayForGood_9 : decode cX7_dayForGood 9 = .ok (.istore_n 3, 1) := dop_62 (dn_w dw61_0 9 rfl)
theorem dX7_dayForGood_10 : decode cX7_dayForGood 10 = .ok (.iload_n 3, 1) := dop_29 (dn_w dw61_0 10 rfl)
theorem dX7_dayForGood_11 : decode cX7_dayForGood 11 = .ok (.bipush 40, 2) := dop_16 (dn_w dw61_0 11 rfl) rfl
theorem dX7_dayForGood_13 : decode cX7_dayForGood 13 = .ok (.if_icmp .gt 48, 3) := dop_163 (dn_w dw61_0 13 rfl) rfl
theorem dX7_dayForGood_16 : decode cX7_dayForGood 16 = .ok (.aload_n 0, 1) := dop_42 (dn_w dw61_1 0 rfl)
theorem dX7_dayForGood_17 : decode cX7_dayForGood 17 = .ok (.getfield 12, 3) := dop_180 (dn_w dw61_1 1 rfl) rfl
theorem dX7_dayForGood_20 : decode cX7_dayForGood 20 = .ok (.getfield 43, 3) := dop_180 (dn_w dw61_1 4 rfl) rfl
theorem dX7_dayForGood_23 : decode cX7_dayForGood 23 = .ok (.iload_n 2, 1) := dop_28 (dn_w dw61_1 7 rfl)
theorem dX7_dayForGood_24 : decode cX7_dayForGood 24 = .ok (.iaload, 1) := dop_46 (dn_w dw61_1 8 rfl)
theorem dX7_dayForGood_25 : decode cX7_dayForGood 25 = .ok (.aload_n 0, 1) := dop_42 (dn_w dw61_1 9 rfl)
theorem dX7_dayForGood_26 : decode cX7_dayForGood 26 = .ok (.getfield 12, 3) := dop_180 (dn_w dw61_1 10 rfl) rfl
theorem dX7_dayForGood_29 : decode cX7_dayForGood 29 = .ok (.getfield 47, 3) := dop_180 (dn_w dw61_1 13 rfl) rfl
theorem dX7_dayForGood_32 : decode cX7_dayForGood 32 = .ok (.iconst 1, 1) := dop_4 (dn_w dw61_2 0 rfl)
theorem dX7_dayForGood_33 : decode cX7_dayForGood 33 = .ok (.iaload, 1) := dop_46 (dn_w dw61_2 1 rfl)
theorem dX7_dayForGood_34 : decode cX7_dayForGood 34 = .ok (.if_icmp .lt 13, 3) := dop_161 (dn_w dw61_2 2 rfl) rfl
theorem dX7_dayForGood_37 : decode cX7_dayForGood 37 = .ok (.aload_n 0, 1) := dop_42 (dn_w dw61_2 5 rfl)
theorem dX7_dayForGood_38 : decode cX7_dayForGood 38 = .ok (.getfield 12, 3) := dop_180 (dn_w dw61_2 6 rfl) rfl
theorem dX7_dayForGood_41 : decode cX7_dayForGood 41 = .ok (.getfield 50, 3) := dop_180 (dn_w dw61_2 9 rfl) rfl
theorem dX7_dayForGood_44 : decode cX7_dayForGood 44 = .ok (.iconst 1, 1) := dop_4 (dn_w dw61_2 12 rfl)
theorem dX7_dayForGood_45 : decode cX7_dayForGood 45 = .ok (.isub, 1) := dop_100 (dn_w dw61_2 13 rfl)
theorem dX7_dayForGood_46 : decode cX7_dayForGood 46 = .ok (.ireturn, 1) := dop_172 (dn_w dw61_2 14 rfl)
theorem dX7_dayForGood_47 : decode cX7_dayForGood 47 = .ok (.aload_n 0, 1) := dop_42 (dn_w dw61_2 15 rfl)
theorem dX7_dayForGood_48 : decode cX7_dayForGood 48 = .ok (.getfield 12, 3) := dop_180 (dn_w dw61_3 0 rfl) rfl
theorem dX7_dayForGood_51 : decode cX7_dayForGood 51 = .ok (.invokevirtual 30, 3) := dop_182 (dn_w dw61_3 3 rfl) rfl
theorem dX7_dayForGood_54 : decode cX7_dayForGood 54 = .ok (.pop, 1) := dop_87 (dn_w dw61_3 6 rfl)
theorem dX7_dayForGood_55 : decode cX7_dayForGood 55 = .ok (.iinc 3 1, 3) := dop_132 (dn_w dw61_3 7 rfl) rfl
theorem dX7_dayForGood_58 : decode cX7_dayForGood 58 = .ok (.goto (-48), 3) := dop_167 (dn_w dw61_3 10 rfl) rfl
theorem dX7_dayForGood_61 : decode cX7_dayForGood 61 = .ok (.bipush (-3), 2) := dop_16 (dn_w dw61_3 13 rfl) rfl
theorem dX7_dayForGood_63 : decode cX7_dayForGood 63 = .ok (.ireturn, 1) := dop_172 (dn_w dw61_3 15 rfl)
noncomputable def dt62_3 : List Nat := 1 :: 167 :: 255 :: 221 :: 21 :: 4 :: 172 :: []
noncomputable def dt62_2 : List Nat := 0 :: 12 :: 182 :: 0 :: 30 :: 28 :: 126 :: 28 :: 160 :: 0 :: 6 :: 132 :: 4 :: 1 :: 132 :: 5 :: dt62_3
noncomputable def dt62_1 : List Nat := 29 :: 162 :: 0 :: 35 :: 42 :: 180 :: 0 :: 12 :: 182 :: 0 :: 26 :: 154 :: 0 :: 25 :: 42 :: 180 :: dt62_2
noncomputable def dt62_0 : List Nat := 42 :: 180 :: 0 :: 12 :: 43 :: 182 :: 0 :: 18 :: 3 :: 54 :: 4 :: 3 :: 54 :: 5 :: 21 :: 5 :: dt62_1
theorem dw62_0 : dn cX7_meetings 0 = dt62_0 := by decide +kernel
theorem dw62_1 : dn cX7_meetings 16 = dt62_1 := dn_w dw62_0 16 rfl
theorem dw62_2 : dn cX7_meetings 32 = dt62_2 := dn_w dw62_1 16 rfl
theorem dw62_3 : dn cX7_meetings 48 = dt62_3 := dn_w dw62_2 16 rfl
theorem dX7_meetings_0 : decode cX7_meetings 0 = .ok (.aload_n 0, 1) := dop_42 (dn_w dw62_0 0 rfl)
theorem dX7_meetings_1 : decode cX7_meetings 1 = .ok (.getfield 12, 3) := dop_180 (dn_w dw62_0 1 rfl) rfl
theorem dX7_meetings_4 : decode cX7_meetings 4 = .ok (.aload_n 1, 1) := dop_43 (dn_w dw62_0 4 rfl)
theorem dX7_meetings_5 : decode cX7_meetings 5 = .ok (.invokevirtual 18, 3) := dop_182 (dn_w dw62_0 5 rfl) rfl
theorem dX7_meetings_8 : decode cX7_meetings 8 = .ok (.iconst 0, 1) := dop_3 (dn_w dw62_0 8 rfl)
theorem dX7_meetings_9 : decode cX7_meetings 9 = .ok (.istore 4, 2) := dop_54 (dn_w dw62_0 9 rfl)
theorem dX7_meetings_11 : decode cX7_meetings 11 = .ok (.iconst 0, 1) := dop_3 (dn_w dw62_0 11 rfl)
theorem dX7_meetings_12 : decode cX7_meetings 12 = .ok (.istore 5, 2) := dop_54 (dn_w dw62_0 12 rfl)
theorem dX7_meetings_14 : decode cX7_meetings 14 = .ok (.iload 5, 2) := dop_21 (dn_w dw62_0 14 rfl)
theorem dX7_meetings_16 : decode cX7_meetings 16 = .ok (.iload_n 3, 1) := dop_29 (dn_w dw62_1 0 rfl)
theorem dX7_meetings_17 : decode cX7_meetings 17 = .ok (.if_icmp .ge 35, 3) := dop_162 (dn_w dw62_1 1 rfl) rfl
theorem dX7_meetings_20 : decode cX7_meetings 20 = .ok (.aload_n 0, 1) := dop_42 (dn_w dw62_1 4 rfl)
theorem dX7_meetings_21 : decode cX7_meetings 21 = .ok (.getfield 12, 3) := dop_180 (dn_w dw62_1 5 rfl) rfl
theorem dX7_meetings_24 : decode cX7_meetings 24 = .ok (.invokevirtual 26, 3) := dop_182 (dn_w dw62_1 8 rfl) rfl
theorem dX7_meetings_27 : decode cX7_meetings 27 = .ok (.ifCond .ne 25, 3) := dop_154 (dn_w dw62_1 11 rfl) rfl
theorem dX7_meetings_30 : decode cX7_meetings 30 = .ok (.aload_n 0, 1) := dop_42 (dn_w dw62_1 14 rfl)
theorem dX7_meetings_31 : decode cX7_meetings 31 = .ok (.getfield 12, 3) := dop_180 (dn_w dw62_1 15 rfl) rfl
theorem dX7_meetings_34 : decode cX7_meetings 34 = .ok (.invokevirtual 30, 3) := dop_182 (dn_w dw62_2 2 rfl) rfl
theorem dX7_meetings_37 : decode cX7_meetings 37 = .ok (.iload_n 2, 1) := dop_28 (dn_w dw62_2 5 rfl)
theorem dX7_meetings_38 : decode cX7_meetings 38 = .ok (.iand, 1) := dop_126 (dn_w dw62_2 6 rfl)
theorem dX7_meetings_39 : decode cX7_meetings 39 = .ok (.iload_n 2, 1) := dop_28 (dn_w dw62_2 7 rfl)
theorem dX7_meetings_40 : decode cX7_meetings 40 = .ok (.if_icmp .ne 6, 3) := dop_160 (dn_w dw62_2 8 rfl) rfl
theorem dX7_meetings_43 : decode cX7_meetings 43 = .ok (.iinc 4 1, 3) := dop_132 (dn_w dw62_2 11 rfl) rfl
theorem dX7_meetings_46 : decode cX7_meetings 46 = .ok (.iinc 5 1, 3) := dop_132 (dn_w dw62_2 14 rfl) rfl
theorem dX7_meetings_49 : decode cX7_meetings 49 = .ok (.goto (-35), 3) := dop_167 (dn_w dw62_3 1 rfl) rfl
theorem dX7_meetings_52 : decode cX7_meetings 52 = .ok (.iload 4, 2) := dop_21 (dn_w dw62_3 4 rfl)
theorem dX7_meetings_54 : decode cX7_meetings 54 = .ok (.ireturn, 1) := dop_172 (dn_w dw62_3 6 rfl)
noncomputable def dt63_4 : List Nat := 4 :: 100 :: 62 :: 132 :: 5 :: 1 :: 167 :: 255 :: 204 :: 29 :: 172 :: []
noncomputable def dt63_3 : List Nat := 21 :: 4 :: 162 :: 0 :: 17 :: 21 :: 6 :: 54 :: 4 :: 42 :: 180 :: 0 :: 12 :: 180 :: 0 :: 50 :: dt63_4
noncomputable def dt63_2 : List Nat := 0 :: 42 :: 42 :: 180 :: 0 :: 12 :: 182 :: 0 :: 30 :: 184 :: 0 :: 34 :: 54 :: 6 :: 21 :: 6 :: dt63_3
noncomputable def dt63_1 : List Nat := 54 :: 5 :: 21 :: 5 :: 28 :: 162 :: 0 :: 52 :: 42 :: 180 :: 0 :: 12 :: 182 :: 0 :: 26 :: 154 :: dt63_2
noncomputable def dt63_0 : List Nat := 42 :: 180 :: 0 :: 12 :: 43 :: 182 :: 0 :: 18 :: 16 :: 253 :: 62 :: 16 :: 9 :: 54 :: 4 :: 3 :: dt63_1
theorem dw63_0 : dn cX7_emptiestDay 0 = dt63_0 := by decide +kernel
theorem dw63_1 : dn cX7_emptiestDay 16 = dt63_1 := dn_w dw63_0 16 rfl
theorem dw63_2 : dn cX7_emptiestDay 32 = dt63_2 := dn_w dw63_1 16 rfl
theorem dw63_3 : dn cX7_emptiestDay 48 = dt63_3 := dn_w dw63_2 16 rfl
theorem dw63_4 : dn cX7_emptiestDay 64 = dt63_4 := dn_w dw63_3 16 rfl
theorem dX7_emptiestDay_0 : decode cX7_emptiestDay 0 = .ok (.aload_n 0, 1) := dop_42 (dn_w dw63_0 0 rfl)
theorem dX7_emptiestDay_1 : decode cX7_emptiestDay 1 = .ok (.getfield 12, 3) := dop_180 (dn_w dw63_0 1 rfl) rfl
theorem dX7_emptiestDay_4 : decode cX7_emptiestDay 4 = .ok (.aload_n 1, 1) := dop_43 (dn_w dw63_0 4 rfl)
theorem dX7_emptiestDay_5 : decode cX7_emptiestDay 5 = .ok (.invokevirtual 18, 3) := dop_182 (dn_w dw63_0 5 rfl) rfl
theorem dX7_emptiestDay_8 : decode cX7_emptiestDay 8 = .ok (.bipush (-3), 2) := dop_16 (dn_w dw63_0 8 rfl) rfl
theorem dX7_emptiestDay_10 : decode cX7_emptiestDay 10 = .ok (.istore_n 3, 1) := dop_62 (dn_w dw63_0 10 rfl)
theorem dX7_emptiestDay_11 : decode cX7_emptiestDay 11 = .ok (.bipush 9, 2) := dop_16 (dn_w dw63_0 11 rfl) rfl
theorem dX7_emptiestDay_13 : decode cX7_emptiestDay 13 = .ok (.istore 4, 2) := dop_54 (dn_w dw63_0 13 rfl)
theorem dX7_emptiestDay_15 : decode cX7_emptiestDay 15 = .ok (.iconst 0, 1) := dop_3 (dn_w dw63_0 15 rfl)
theorem dX7_emptiestDay_16 : decode cX7_emptiestDay 16 = .ok (.istore 5, 2) := dop_54 (dn_w dw63_1 0 rfl)
theorem dX7_emptiestDay_18 : decode cX7_emptiestDay 18 = .ok (.iload 5, 2) := dop_21 (dn_w dw63_1 2 rfl)
theorem dX7_emptiestDay_20 : decode cX7_emptiestDay 20 = .ok (.iload_n 2, 1) := dop_28 (dn_w dw63_1 4 rfl)
theorem dX7_emptiestDay_21 : decode cX7_emptiestDay 21 = .ok (.if_icmp .ge 52, 3) := dop_162 (dn_w dw63_1 5 rfl) rfl
theorem dX7_emptiestDay_24 : decode cX7_emptiestDay 24 = .ok (.aload_n 0, 1) := dop_42 (dn_w dw63_1 8 rfl)
theorem dX7_emptiestDay_25 : decode cX7_emptiestDay 25 = .ok (.getfield 12, 3) := dop_180 (dn_w dw63_1 9 rfl) rfl
theorem dX7_emptiestDay_28 : decode cX7_emptiestDay 28 = .ok (.invokevirtual 26, 3) := dop_182 (dn_w dw63_1 12 rfl) rfl
theorem dX7_emptiestDay_31 : decode cX7_emptiestDay 31 = .ok (.ifCond .ne 42, 3) := dop_154 (dn_w dw63_1 15 rfl) rfl
theorem dX7_emptiestDay_34 : decode cX7_emptiestDay 34 = .ok (.aload_n 0, 1) := dop_42 (dn_w dw63_2 2 rfl)
theorem dX7_emptiestDay_35 : decode cX7_emptiestDay 35 = .ok (.getfield 12, 3) := dop_180 (dn_w dw63_2 3 rfl) rfl
theorem dX7_emptiestDay_38 : decode cX7_emptiestDay 38 = .ok (.invokevirtual 30, 3) := dop_182 (dn_w dw63_2 6 rfl) rfl
theorem dX7_emptiestDay_41 : decode cX7_emptiestDay 41 = .ok (.invokestatic 34, 3) := dop_184 (dn_w dw63_2 9 rfl) rfl
theorem dX7_emptiestDay_44 : decode cX7_emptiestDay 44 = .ok (.istore 6, 2) := dop_54 (dn_w dw63_2 12 rfl)
theorem dX7_emptiestDay_46 : decode cX7_emptiestDay 46 = .ok (.iload 6, 2) := dop_21 (dn_w dw63_2 14 rfl)
theorem dX7_emptiestDay_48 : decode cX7_emptiestDay 48 = .ok (.iload 4, 2) := dop_21 (dn_w dw63_3 0 rfl)
theorem dX7_emptiestDay_50 : decode cX7_emptiestDay 50 = .ok (.if_icmp .ge 17, 3) := dop_162 (dn_w dw63_3 2 rfl) rfl
theorem dX7_emptiestDay_53 : decode cX7_emptiestDay 53 = .ok (.iload 6, 2) := dop_21 (dn_w dw63_3 5 rfl)
theorem dX7_emptiestDay_55 : decode cX7_emptiestDay 55 = .ok (.istore 4, 2) := dop_54 (dn_w dw63_3 7 rfl)
theorem dX7_emptiestDay_57 : decode cX7_emptiestDay 57 = .ok (.aload_n 0, 1) := dop_42 (dn_w dw63_3 9 rfl)
theorem dX7_emptiestDay_58 : decode cX7_emptiestDay 58 = .ok (.getfield 12, 3) := dop_180 (dn_w dw63_3 10 rfl) rfl
theorem dX7_emptiestDay_61 : decode cX7_emptiestDay 61 = .ok (.getfield 50, 3) := dop_180 (dn_w dw63_3 13 rfl) rfl
theorem dX7_emptiestDay_64 : decode cX7_emptiestDay 64 = .ok (.iconst 1, 1) := dop_4 (dn_w dw63_4 0 rfl)
theorem dX7_emptiestDay_65 : decode cX7_emptiestDay 65 = .ok (.isub, 1) := dop_100 (dn_w dw63_4 1 rfl)
theorem dX7_emptiestDay_66 : decode cX7_emptiestDay 66 = .ok (.istore_n 3, 1) := dop_62 (dn_w dw63_4 2 rfl)
theorem dX7_emptiestDay_67 : decode cX7_emptiestDay 67 = .ok (.iinc 5 1, 3) := dop_132 (dn_w dw63_4 3 rfl) rfl
theorem dX7_emptiestDay_70 : decode cX7_emptiestDay 70 = .ok (.goto (-52), 3) := dop_167 (dn_w dw63_4 6 rfl) rfl
theorem dX7_emptiestDay_73 : decode cX7_emptiestDay 73 = .ok (.iload_n 3, 1) := dop_29 (dn_w dw63_4 9 rfl)
theorem dX7_emptiestDay_74 : decode cX7_emptiestDay 74 = .ok (.ireturn, 1) := dop_172 (dn_w dw63_4 10 rfl)
noncomputable def dt64_4 : List Nat := 4 :: 1 :: 167 :: 255 :: 206 :: 177 :: []
noncomputable def dt64_3 : List Nat := 50 :: 4 :: 100 :: 21 :: 5 :: 42 :: 180 :: 0 :: 12 :: 182 :: 0 :: 59 :: 182 :: 0 :: 62 :: 132 :: dt64_4
noncomputable def dt64_2 : List Nat := 42 :: 180 :: 0 :: 12 :: 182 :: 0 :: 30 :: 54 :: 5 :: 44 :: 42 :: 180 :: 0 :: 12 :: 180 :: 0 :: dt64_3
noncomputable def dt64_1 : List Nat := 21 :: 4 :: 29 :: 162 :: 0 :: 50 :: 42 :: 180 :: 0 :: 12 :: 182 :: 0 :: 26 :: 154 :: 0 :: 40 :: dt64_2
noncomputable def dt64_0 : List Nat := 42 :: 180 :: 0 :: 12 :: 43 :: 182 :: 0 :: 18 :: 44 :: 3 :: 181 :: 0 :: 54 :: 3 :: 54 :: 4 :: dt64_1
theorem dw64_0 : dn cX7_writeRows 0 = dt64_0 := by decide +kernel
theorem dw64_1 : dn cX7_writeRows 16 = dt64_1 := dn_w dw64_0 16 rfl
theorem dw64_2 : dn cX7_writeRows 32 = dt64_2 := dn_w dw64_1 16 rfl
theorem dw64_3 : dn cX7_writeRows 48 = dt64_3 := dn_w dw64_2 16 rfl
theorem dw64_4 : dn cX7_writeRows 64 = dt64_4 := dn_w dw64_3 16 rfl
theorem dX7_writeRows_0 : decode cX7_writeRows 0 = .ok (.aload_n 0, 1) := dop_42 (dn_w dw64_0 0 rfl)
theorem dX7_writeRows_1 : decode cX7_writeRows 1 = .ok (.getfield 12, 3) := dop_180 (dn_w dw64_0 1 rfl) rfl
theorem dX7_writeRows_4 : decode cX7_writeRows 4 = .ok (.aload_n 1, 1) := dop_43 (dn_w dw64_0 4 rfl)
theorem dX7_writeRows_5 : decode cX7_writeRows 5 = .ok (.invokevirtual 18, 3) := dop_182 (dn_w dw64_0 5 rfl) rfl
theorem dX7_writeRows_8 : decode cX7_writeRows 8 = .ok (.aload_n 2, 1) := dop_44 (dn_w dw64_0 8 rfl)
theorem dX7_writeRows_9 : decode cX7_writeRows 9 = .ok (.iconst 0, 1) := dop_3 (dn_w dw64_0 9 rfl)
theorem dX7_writeRows_10 : decode cX7_writeRows 10 = .ok (.putfield 54, 3) := dop_181 (dn_w dw64_0 10 rfl) rfl
theorem dX7_writeRows_13 : decode cX7_writeRows 13 = .ok (.iconst 0, 1) := dop_3 (dn_w dw64_0 13 rfl)
theorem dX7_writeRows_14 : decode cX7_writeRows 14 = .ok (.istore 4, 2) := dop_54 (dn_w dw64_0 14 rfl)
theorem dX7_writeRows_16 : decode cX7_writeRows 16 = .ok (.iload 4, 2) := dop_21 (dn_w dw64_1 0 rfl)
theorem dX7_writeRows_18 : decode cX7_writeRows 18 = .ok (.iload_n 3, 1) := dop_29 (dn_w dw64_1 2 rfl)
theorem dX7_writeRows_19 : decode cX7_writeRows 19 = .ok (.if_icmp .ge 50, 3) := dop_162 (dn_w dw64_1 3 rfl) rfl
theorem dX7_writeRows_22 : decode cX7_writeRows 22 = .ok (.aload_n 0, 1) := dop_42 (dn_w dw64_1 6 rfl)
theorem dX7_writeRows_23 : decode cX7_writeRows 23 = .ok (.getfield 12, 3) := dop_180 (dn_w dw64_1 7 rfl) rfl
theorem dX7_writeRows_26 : decode cX7_writeRows 26 = .ok (.invokevirtual 26, 3) := dop_182 (dn_w dw64_1 10 rfl) rfl
theorem dX7_writeRows_29 : decode cX7_writeRows 29 = .ok (.ifCond .ne 40, 3) := dop_154 (dn_w dw64_1 13 rfl) rfl
theorem dX7_writeRows_32 : decode cX7_writeRows 32 = .ok (.aload_n 0, 1) := dop_42 (dn_w dw64_2 0 rfl)
theorem dX7_writeRows_33 : decode cX7_writeRows 33 = .ok (.getfield 12, 3) := dop_180 (dn_w dw64_2 1 rfl) rfl
theorem dX7_writeRows_36 : decode cX7_writeRows 36 = .ok (.invokevirtual 30, 3) := dop_182 (dn_w dw64_2 4 rfl) rfl
theorem dX7_writeRows_39 : decode cX7_writeRows 39 = .ok (.istore 5, 2) := dop_54 (dn_w dw64_2 7 rfl)
theorem dX7_writeRows_41 : decode cX7_writeRows 41 = .ok (.aload_n 2, 1) := dop_44 (dn_w dw64_2 9 rfl)
theorem dX7_writeRows_42 : decode cX7_writeRows 42 = .ok (.aload_n 0, 1) := dop_42 (dn_w dw64_2 10 rfl)
theorem dX7_writeRows_43 : decode cX7_writeRows 43 = .ok (.getfield 12, 3) := dop_180 (dn_w dw64_2 11 rfl) rfl
theorem dX7_writeRows_46 : decode cX7_writeRows 46 = .ok (.getfield 50, 3) := dop_180 (dn_w dw64_2 14 rfl) rfl
theorem dX7_writeRows_49 : decode cX7_writeRows 49 = .ok (.iconst 1, 1) := dop_4 (dn_w dw64_3 1 rfl)
theorem dX7_writeRows_50 : decode cX7_writeRows 50 = .ok (.isub, 1) := dop_100 (dn_w dw64_3 2 rfl)
theorem dX7_writeRows_51 : decode cX7_writeRows 51 = .ok (.iload 5, 2) := dop_21 (dn_w dw64_3 3 rfl)
theorem dX7_writeRows_53 : decode cX7_writeRows 53 = .ok (.aload_n 0, 1) := dop_42 (dn_w dw64_3 5 rfl)
theorem dX7_writeRows_54 : decode cX7_writeRows 54 = .ok (.getfield 12, 3) := dop_180 (dn_w dw64_3 6 rfl) rfl
theorem dX7_writeRows_57 : decode cX7_writeRows 57 = .ok (.invokevirtual 59, 3) := dop_182 (dn_w dw64_3 9 rfl) rfl
theorem dX7_writeRows_60 : decode cX7_writeRows 60 = .ok (.invokevirtual 62, 3) := dop_182 (dn_w dw64_3 12 rfl) rfl
theorem dX7_writeRows_63 : decode cX7_writeRows 63 = .ok (.iinc 4 1, 3) := dop_132 (dn_w dw64_3 15 rfl) rfl
theorem dX7_writeRows_66 : decode cX7_writeRows 66 = .ok (.goto (-50), 3) := dop_167 (dn_w dw64_4 2 rfl) rfl
theorem dX7_writeRows_69 : decode cX7_writeRows 69 = .ok (.return_, 1) := dop_177 (dn_w dw64_4 5 rfl)
noncomputable def dt65_4 : List Nat := 5 :: 29 :: 172 :: 132 :: 3 :: 1 :: 167 :: 255 :: 196 :: 2 :: 172 :: []
noncomputable def dt65_3 : List Nat := 4 :: 100 :: 21 :: 4 :: 42 :: 180 :: 0 :: 12 :: 182 :: 0 :: 59 :: 182 :: 0 :: 66 :: 154 :: 0 :: dt65_4
noncomputable def dt65_2 : List Nat := 0 :: 12 :: 182 :: 0 :: 30 :: 54 :: 4 :: 44 :: 29 :: 42 :: 180 :: 0 :: 12 :: 180 :: 0 :: 50 :: dt65_3
noncomputable def dt65_1 : List Nat := 0 :: 58 :: 42 :: 180 :: 0 :: 12 :: 182 :: 0 :: 26 :: 153 :: 0 :: 5 :: 29 :: 172 :: 42 :: 180 :: dt65_2
noncomputable def dt65_0 : List Nat := 42 :: 180 :: 0 :: 12 :: 43 :: 182 :: 0 :: 18 :: 3 :: 62 :: 29 :: 44 :: 180 :: 0 :: 54 :: 162 :: dt65_1
theorem dw65_0 : dn cX7_firstWrongRow 0 = dt65_0 := by decide +kernel
theorem dw65_1 : dn cX7_firstWrongRow 16 = dt65_1 := dn_w dw65_0 16 rfl
theorem dw65_2 : dn cX7_firstWrongRow 32 = dt65_2 := dn_w dw65_1 16 rfl
theorem dw65_3 : dn cX7_firstWrongRow 48 = dt65_3 := dn_w dw65_2 16 rfl
theorem dw65_4 : dn cX7_firstWrongRow 64 = dt65_4 := dn_w dw65_3 16 rfl
theorem dX7_firstWrongRow_0 : decode cX7_firstWrongRow 0 = .ok (.aload_n 0, 1) := dop_42 (dn_w dw65_0 0 rfl)
theorem dX7_firstWrongRow_1 : decode cX7_firstWrongRow 1 = .ok (.getfield 12, 3) := dop_180 (dn_w dw65_0 1 rfl) rfl
theorem dX7_firstWrongRow_4 : decode cX7_firstWrongRow 4 = .ok (.aload_n 1, 1) := dop_43 (dn_w dw65_0 4 rfl)
theorem dX7_firstWrongRow_5 : decode cX7_firstWrongRow 5 = .ok (.invokevirtual 18, 3) := dop_182 (dn_w dw65_0 5 rfl) rfl
theorem dX7_firstWrongRow_8 : decode cX7_firstWrongRow 8 = .ok (.iconst 0, 1) := dop_3 (dn_w dw65_0 8 rfl)
theorem dX7_firstWrongRow_9 : decode cX7_firstWrongRow 9 = .ok (.istore_n 3, 1) := dop_62 (dn_w dw65_0 9 rfl)
theorem dX7_firstWrongRow_10 : decode cX7_firstWrongRow 10 = .ok (.iload_n 3, 1) := dop_29 (dn_w dw65_0 10 rfl)
theorem dX7_firstWrongRow_11 : decode cX7_firstWrongRow 11 = .ok (.aload_n 2, 1) := dop_44 (dn_w dw65_0 11 rfl)
theorem dX7_firstWrongRow_12 : decode cX7_firstWrongRow 12 = .ok (.getfield 54, 3) := dop_180 (dn_w dw65_0 12 rfl) rfl
theorem dX7_firstWrongRow_15 : decode cX7_firstWrongRow 15 = .ok (.if_icmp .ge 58, 3) := dop_162 (dn_w dw65_0 15 rfl) rfl
theorem dX7_firstWrongRow_18 : decode cX7_firstWrongRow 18 = .ok (.aload_n 0, 1) := dop_42 (dn_w dw65_1 2 rfl)
theorem dX7_firstWrongRow_19 : decode cX7_firstWrongRow 19 = .ok (.getfield 12, 3) := dop_180 (dn_w dw65_1 3 rfl) rfl
theorem dX7_firstWrongRow_22 : decode cX7_firstWrongRow 22 = .ok (.invokevirtual 26, 3) := dop_182 (dn_w dw65_1 6 rfl) rfl
theorem dX7_firstWrongRow_25 : decode cX7_firstWrongRow 25 = .ok (.ifCond .eq 5, 3) := dop_153 (dn_w dw65_1 9 rfl) rfl
theorem dX7_firstWrongRow_28 : decode cX7_firstWrongRow 28 = .ok (.iload_n 3, 1) := dop_29 (dn_w dw65_1 12 rfl)
theorem dX7_firstWrongRow_29 : decode cX7_firstWrongRow 29 = .ok (.ireturn, 1) := dop_172 (dn_w dw65_1 13 rfl)
theorem dX7_firstWrongRow_30 : decode cX7_firstWrongRow 30 = .ok (.aload_n 0, 1) := dop_42 (dn_w dw65_1 14 rfl)
theorem dX7_firstWrongRow_31 : decode cX7_firstWrongRow 31 = .ok (.getfield 12, 3) := dop_180 (dn_w dw65_1 15 rfl) rfl
theorem dX7_firstWrongRow_34 : decode cX7_firstWrongRow 34 = .ok (.invokevirtual 30, 3) := dop_182 (dn_w dw65_2 2 rfl) rfl
theorem dX7_firstWrongRow_37 : decode cX7_firstWrongRow 37 = .ok (.istore 4, 2) := dop_54 (dn_w dw65_2 5 rfl)
theorem dX7_firstWrongRow_39 : decode cX7_firstWrongRow 39 = .ok (.aload_n 2, 1) := dop_44 (dn_w dw65_2 7 rfl)
theorem dX7_firstWrongRow_40 : decode cX7_firstWrongRow 40 = .ok (.iload_n 3, 1) := dop_29 (dn_w dw65_2 8 rfl)
theorem dX7_firstWrongRow_41 : decode cX7_firstWrongRow 41 = .ok (.aload_n 0, 1) := dop_42 (dn_w dw65_2 9 rfl)
theorem dX7_firstWrongRow_42 : decode cX7_firstWrongRow 42 = .ok (.getfield 12, 3) := dop_180 (dn_w dw65_2 10 rfl) rfl
theorem dX7_firstWrongRow_45 : decode cX7_firstWrongRow 45 = .ok (.getfield 50, 3) := dop_180 (dn_w dw65_2 13 rfl) rfl
theorem dX7_firstWrongRow_48 : decode cX7_firstWrongRow 48 = .ok (.iconst 1, 1) := dop_4 (dn_w dw65_3 0 rfl)
theorem dX7_firstWrongRow_49 : decode cX7_firstWrongRow 49 = .ok (.isub, 1) := dop_100 (dn_w dw65_3 1 rfl)
theorem dX7_firstWrongRow_50 : decode cX7_firstWrongRow 50 = .ok (.iload 4, 2) := dop_21 (dn_w dw65_3 2 rfl)
theorem dX7_firstWrongRow_52 : decode cX7_firstWrongRow 52 = .ok (.aload_n 0, 1) := dop_42 (dn_w dw65_3 4 rfl)
theorem dX7_firstWrongRow_53 : decode cX7_firstWrongRow 53 = .ok (.getfield 12, 3) := dop_180 (dn_w dw65_3 5 rfl) rfl
theorem dX7_firstWrongRow_56 : decode cX7_firstWrongRow 56 = .ok (.invokevirtual 59, 3) := dop_182 (dn_w dw65_3 8 rfl) rfl
theorem dX7_firstWrongRow_59 : decode cX7_firstWrongRow 59 = .ok (.invokevirtual 66, 3) := dop_182 (dn_w dw65_3 11 rfl) rfl
theorem dX7_firstWrongRow_62 : decode cX7_firstWrongRow 62 = .ok (.ifCond .ne 5, 3) := dop_154 (dn_w dw65_3 14 rfl) rfl
theorem dX7_firstWrongRow_65 : decode cX7_firstWrongRow 65 = .ok (.iload_n 3, 1) := dop_29 (dn_w dw65_4 1 rfl)
theorem dX7_firstWrongRow_66 : decode cX7_firstWrongRow 66 = .ok (.ireturn, 1) := dop_172 (dn_w dw65_4 2 rfl)
theorem dX7_firstWrongRow_67 : decode cX7_firstWrongRow 67 = .ok (.iinc 3 1, 3) := dop_132 (dn_w dw65_4 3 rfl) rfl
theorem dX7_firstWrongRow_70 : decode cX7_firstWrongRow 70 = .ok (.goto (-60), 3) := dop_167 (dn_w dw65_4 6 rfl) rfl
theorem dX7_firstWrongRow_73 : decode cX7_firstWrongRow 73 = .ok (.iconst (-1), 1) := dop_2 (dn_w dw65_4 9 rfl)
theorem dX7_firstWrongRow_74 : decode cX7_firstWrongRow 74 = .ok (.ireturn, 1) := dop_172 (dn_w dw65_4 10 rfl)
noncomputable def dt66_8 : List Nat := 27 :: 187 :: 0 :: 50 :: 89 :: 183 :: 0 :: 64 :: 83 :: 132 :: 1 :: 1 :: 167 :: 255 :: 235 :: 177 :: []
noncomputable def dt66_7 : List Nat := 1 :: 1 :: 167 :: 255 :: 235 :: 3 :: 60 :: 27 :: 7 :: 162 :: 0 :: 22 :: 42 :: 180 :: 0 :: 52 :: dt66_8
noncomputable def dt66_6 : List Nat := 0 :: 22 :: 42 :: 180 :: 0 :: 46 :: 27 :: 187 :: 0 :: 44 :: 89 :: 183 :: 0 :: 63 :: 83 :: 132 :: dt66_7
noncomputable def dt66_5 : List Nat := 42 :: 187 :: 0 :: 56 :: 89 :: 183 :: 0 :: 58 :: 181 :: 0 :: 59 :: 3 :: 60 :: 27 :: 7 :: 162 :: dt66_6
noncomputable def dt66_4 : List Nat := 42 :: 7 :: 189 :: 0 :: 44 :: 181 :: 0 :: 46 :: 42 :: 7 :: 189 :: 0 :: 50 :: 181 :: 0 :: 52 :: dt66_5
noncomputable def dt66_3 : List Nat := 0 :: 32 :: 181 :: 0 :: 33 :: 42 :: 187 :: 0 :: 37 :: 89 :: 183 :: 0 :: 39 :: 181 :: 0 :: 40 :: dt66_4
noncomputable def dt66_2 : List Nat := 187 :: 0 :: 23 :: 89 :: 183 :: 0 :: 25 :: 181 :: 0 :: 26 :: 42 :: 187 :: 0 :: 30 :: 89 :: 183 :: dt66_3
noncomputable def dt66_1 : List Nat := 187 :: 0 :: 7 :: 89 :: 183 :: 0 :: 9 :: 181 :: 0 :: 16 :: 42 :: 3 :: 181 :: 0 :: 19 :: 42 :: dt66_2
noncomputable def dt66_0 : List Nat := 42 :: 183 :: 0 :: 1 :: 42 :: 187 :: 0 :: 7 :: 89 :: 183 :: 0 :: 9 :: 181 :: 0 :: 10 :: 42 :: dt66_1
theorem dw66_0 : dn cX8_init 0 = dt66_0 := by decide +kernel
theorem dw66_1 : dn cX8_init 16 = dt66_1 := dn_w dw66_0 16 rfl
theorem dw66_2 : dn cX8_init 32 = dt66_2 := dn_w dw66_1 16 rfl
theorem dw66_3 : dn cX8_init 48 = dt66_3 := dn_w dw66_2 16 rfl
theorem dw66_4 : dn cX8_init 64 = dt66_4 := dn_w dw66_3 16 rfl
theorem dw66_5 : dn cX8_init 80 = dt66_5 := dn_w dw66_4 16 rfl
theorem dw66_6 : dn cX8_init 96 = dt66_6 := dn_w dw66_5 16 rfl
theorem dw66_7 : dn cX8_init 112 = dt66_7 := dn_w dw66_6 16 rfl
theorem dw66_8 : dn cX8_init 128 = dt66_8 := dn_w dw66_7 16 rfl
theorem dX8_init_0 : decode cX8_init 0 = .ok (.aload_n 0, 1) := dop_42 (dn_w dw66_0 0 rfl)
theorem dX8_init_1 : decode cX8_init 1 = .ok (.invokespecial 1, 3) := dop_183 (dn_w dw66_0 1 rfl) rfl
theorem dX8_init_4 : decode cX8_init 4 = .ok (.aload_n 0, 1) := dop_42 (dn_w dw66_0 4 rfl)
theorem dX8_init_5 : decode cX8_init 5 = .ok (.new 7, 3) := dop_187 (dn_w dw66_0 5 rfl) rfl
theorem dX8_init_8 : decode cX8_init 8 = .ok (.dup, 1) := dop_89 (dn_w dw66_0 8 rfl)
theorem dX8_init_9 : decode cX8_init 9 = .ok (.invokespecial 9, 3) := dop_183 (dn_w dw66_0 9 rfl) rfl
theorem dX8_init_12 : decode cX8_init 12 = .ok (.putfield 10, 3) := dop_181 (dn_w dw66_0 12 rfl) rfl
theorem dX8_init_15 : decode cX8_init 15 = .ok (.aload_n 0, 1) := dop_42 (dn_w dw66_0 15 rfl)
theorem dX8_init_16 : decode cX8_init 16 = .ok (.new 7, 3) := dop_187 (dn_w dw66_1 0 rfl) rfl
theorem dX8_init_19 : decode cX8_init 19 = .ok (.dup, 1) := dop_89 (dn_w dw66_1 3 rfl)
theorem dX8_init_20 : decode cX8_init 20 = .ok (.invokespecial 9, 3) := dop_183 (dn_w dw66_1 4 rfl) rfl
theorem dX8_init_23 : decode cX8_init 23 = .ok (.putfield 16, 3) := dop_181 (dn_w dw66_1 7 rfl) rfl
theorem dX8_init_26 : decode cX8_init 26 = .ok (.aload_n 0, 1) := dop_42 (dn_w dw66_1 10 rfl)
theorem dX8_init_27 : decode cX8_init 27 = .ok (.iconst 0, 1) := dop_3 (dn_w dw66_1 11 rfl)
theorem dX8_init_28 : decode cX8_init 28 = .ok (.putfield 19, 3) := dop_181 (dn_w dw66_1 12 rfl) rfl
theorem dX8_init_31 : decode cX8_init 31 = .ok (.aload_n 0, 1) := dop_42 (dn_w dw66_1 15 rfl)
theorem dX8_init_32 : decode cX8_init 32 = .ok (.new 23, 3) := dop_187 (dn_w dw66_2 0 rfl) rfl
theorem dX8_init_35 : decode cX8_init 35 = .ok (.dup, 1) := dop_89 (dn_w dw66_2 3 rfl)
theorem dX8_init_36 : decode cX8_init 36 = .ok (.invokespecial 25, 3) := dop_183 (dn_w dw66_2 4 rfl) rfl
theorem dX8_init_39 : decode cX8_init 39 = .ok (.putfield 26, 3) := dop_181 (dn_w dw66_2 7 rfl) rfl
theorem dX8_init_42 : decode cX8_init 42 = .ok (.aload_n 0, 1) := dop_42 (dn_w dw66_2 10 rfl)
theorem dX8_init_43 : decode cX8_init 43 = .ok (.new 30, 3) := dop_187 (dn_w dw66_2 11 rfl) rfl
theorem dX8_init_46 : decode cX8_init 46 = .ok (.dup, 1) := dop_89 (dn_w dw66_2 14 rfl)
theorem dX8_init_47 : decode cX8_init 47 = .ok (.invokespecial 32, 3) := dop_183 (dn_w dw66_2 15 rfl) rfl
theorem dX8_init_50 : decode cX8_init 50 = .ok (.putfield 33, 3) := dop_181 (dn_w dw66_3 2 rfl) rfl
theorem dX8_init_53 : decode cX8_init 53 = .ok (.aload_n 0, 1) := dop_42 (dn_w dw66_3 5 rfl)
theorem dX8_init_54 : decode cX8_init 54 = .ok (.new 37, 3) := dop_187 (dn_w dw66_3 6 rfl) rfl
theorem dX8_init_57 : decode cX8_init 57 = .ok (.dup, 1) := dop_89 (dn_w dw66_3 9 rfl)
theorem dX8_init_58 : decode cX8_init 58 = .ok (.invokespecial 39, 3) := dop_183 (dn_w dw66_3 10 rfl) rfl
theorem dX8_init_61 : decode cX8_init 61 = .ok (.putfield 40, 3) := dop_181 (dn_w dw66_3 13 rfl) rfl
theorem dX8_init_64 : decode cX8_init 64 = .ok (.aload_n 0, 1) := dop_42 (dn_w dw66_4 0 rfl)
theorem dX8_init_65 : decode cX8_init 65 = .ok (.iconst 4, 1) := dop_7 (dn_w dw66_4 1 rfl)
theorem dX8_init_66 : decode cX8_init 66 = .ok (.anewarray 44, 3) := dop_189 (dn_w dw66_4 2 rfl) rfl
theorem dX8_init_69 : decode cX8_init 69 = .ok (.putfield 46, 3) := dop_181 (dn_w dw66_4 5 rfl) rfl
theorem dX8_init_72 : decode cX8_init 72 = .ok (.aload_n 0, 1) := dop_42 (dn_w dw66_4 8 rfl)
theorem dX8_init_73 : decode cX8_init 73 = .ok (.iconst 4, 1) := dop_7 (dn_w dw66_4 9 rfl)
theorem dX8_init_74 : decode cX8_init 74 = .ok (.anewarray 50, 3) := dop_189 (dn_w dw66_4 10 rfl) rfl
theorem dX8_init_77 : decode cX8_init 77 = .ok (.putfield 52, 3) := dop_181 (dn_w dw66_4 13 rfl) rfl
theorem dX8_init_80 : decode cX8_init 80 = .ok (.aload_n 0, 1) := dop_42 (dn_w dw66_5 0 rfl)
theorem dX8_init_81 : decode cX8_init 81 = .ok (.new 56, 3) := dop_187 (dn_w dw66_5 1 rfl) rfl
theorem dX8_init_84 : decode cX8_init 84 = .ok (.dup, 1) := dop_89 (dn_w dw66_5 4 rfl)
theorem dX8_init_85 : decode cX8_init 85 = .ok (.invokespecial 58, 3) := dop_183 (dn_w dw66_5 5 rfl) rfl
theorem dX8_init_88 : decode cX8_init 88 = .ok (.putfield 59, 3) := dop_181 (dn_w dw66_5 8 rfl) rfl
theorem dX8_init_91 : decode cX8_init 91 = .ok (.iconst 0, 1) := dop_3 (dn_w dw66_5 11 rfl)
theorem dX8_init_92 : decode cX8_init 92 = .ok (.istore_n 1, 1) := dop_60 (dn_w dw66_5 12 rfl)
theorem dX8_init_93 : decode cX8_init 93 = .ok (.iload_n 1, 1) := dop_27 (dn_w dw66_5 13 rfl)
theorem dX8_init_94 : decode cX8_init 94 = .ok (.iconst 4, 1) := dop_7 (dn_w dw66_5 14 rfl)
theorem dX8_init_95 : decode cX8_init 95 = .ok (.if_icmp .ge 22, 3) := dop_162 (dn_w dw66_5 15 rfl) rfl
theorem dX8_init_98 : decode cX8_init 98 = .ok (.aload_n 0, 1) := dop_42 (dn_w dw66_6 2 rfl)
theorem dX8_init_99 : decode cX8_init 99 = .ok (.getfield 46, 3) := dop_180 (dn_w dw66_6 3 rfl) rfl
theorem dX8_init_102 : decode cX8_init 102 = .ok (.iload_n 1, 1) := dop_27 (dn_w dw66_6 6 rfl)
theorem dX8_init_103 : decode cX8_init 103 = .ok (.new 44, 3) := dop_187 (dn_w dw66_6 7 rfl) rfl
theorem dX8_init_106 : decode cX8_init 106 = .ok (.dup, 1) := dop_89 (dn_w dw66_6 10 rfl)
theorem dX8_init_107 : decode cX8_init 107 = .ok (.invokespecial 63, 3) := dop_183 (dn_w dw66_6 11 rfl) rfl
theorem dX8_init_110 : decode cX8_init 110 = .ok (.aastore, 1) := dop_83 (dn_w dw66_6 14 rfl)
theorem dX8_init_111 : decode cX8_init 111 = .ok (.iinc 1 1, 3) := dop_132 (dn_w dw66_6 15 rfl) rfl
theorem dX8_init_114 : decode cX8_init 114 = .ok (.goto (-21), 3) := dop_167 (dn_w dw66_7 2 rfl) rfl
theorem dX8_init_117 : decode cX8_init 117 = .ok (.iconst 0, 1) := dop_3 (dn_w dw66_7 5 rfl)
theorem dX8_init_118 : decode cX8_init 118 = .ok (.istore_n 1, 1) := dop_60 (dn_w dw66_7 6 rfl)
theorem dX8_init_119 : decode cX8_init 119 = .ok (.iload_n 1, 1) := dop_27 (dn_w dw66_7 7 rfl)
theorem dX8_init_120 : decode cX8_init 120 = .ok (.iconst 4, 1) := dop_7 (dn_w dw66_7 8 rfl)
theorem dX8_init_121 : decode cX8_init 121 = .ok (.if_icmp .ge 22, 3) := dop_162 (dn_w dw66_7 9 rfl) rfl
theorem dX8_init_124 : decode cX8_init 124 = .ok (.aload_n 0, 1) := dop_42 (dn_w dw66_7 12 rfl)
theorem dX8_init_125 : decode cX8_init 125 = .ok (.getfield 52, 3) := dop_180 (dn_w dw66_7 13 rfl) rfl
theorem dX8_init_128 : decode cX8_init 128 = .ok (.iload_n 1, 1) := dop_27 (dn_w dw66_8 0 rfl)
theorem dX8_init_129 : decode cX8_init 129 = .ok (.new 50, 3) := dop_187 (dn_w dw66_8 1 rfl) rfl
theorem dX8_init_132 : decode cX8_init 132 = .ok (.dup, 1) := dop_89 (dn_w dw66_8 4 rfl)
theorem dX8_init_133 : decode cX8_init 133 = .ok (.invokespecial 64, 3) := dop_183 (dn_w dw66_8 5 rfl) rfl
theorem dX8_init_136 : decode cX8_init 136 = .ok (.aastore, 1) := dop_83 (dn_w dw66_8 8 rfl)
theorem dX8_init_137 : decode cX8_init 137 = .ok (.iinc 1 1, 3) := dop_132 (dn_w dw66_8 9 rfl) rfl
theorem dX8_init_140 : decode cX8_init 140 = .ok (.goto (-21), 3) := dop_167 (dn_w dw66_8 12 rfl) rfl
theorem dX8_init_143 : decode cX8_init 143 = .ok (.return_, 1) := dop_177 (dn_w dw66_8 15 rfl)
noncomputable def dt67_2 : List Nat := 167 :: 0 :: 5 :: 16 :: 254 :: 172 :: []
noncomputable def dt67_1 : List Nat := 33 :: 31 :: 29 :: 182 :: 0 :: 65 :: 153 :: 0 :: 13 :: 42 :: 180 :: 0 :: 33 :: 180 :: 0 :: 69 :: dt67_2
noncomputable def dt67_0 : List Nat := 29 :: 4 :: 161 :: 0 :: 9 :: 29 :: 16 :: 8 :: 164 :: 0 :: 5 :: 2 :: 172 :: 42 :: 180 :: 0 :: dt67_1
theorem dw67_0 : dn cX8_feed 0 = dt67_0 := by decide +kernel
theorem dw67_1 : dn cX8_feed 16 = dt67_1 := dn_w dw67_0 16 rfl
theorem dw67_2 : dn cX8_feed 32 = dt67_2 := dn_w dw67_1 16 rfl
theorem dX8_feed_0 : decode cX8_feed 0 = .ok (.iload_n 3, 1) := dop_29 (dn_w dw67_0 0 rfl)
theorem dX8_feed_1 : decode cX8_feed 1 = .ok (.iconst 1, 1) := dop_4 (dn_w dw67_0 1 rfl)
theorem dX8_feed_2 : decode cX8_feed 2 = .ok (.if_icmp .lt 9, 3) := dop_161 (dn_w dw67_0 2 rfl) rfl
theorem dX8_feed_5 : decode cX8_feed 5 = .ok (.iload_n 3, 1) := dop_29 (dn_w dw67_0 5 rfl)
theorem dX8_feed_6 : decode cX8_feed 6 = .ok (.bipush 8, 2) := dop_16 (dn_w dw67_0 6 rfl) rfl
theorem dX8_feed_8 : decode cX8_feed 8 = .ok (.if_icmp .le 5, 3) := dop_164 (dn_w dw67_0 8 rfl) rfl
theorem dX8_feed_11 : decode cX8_feed 11 = .ok (.iconst (-1), 1) := dop_2 (dn_w dw67_0 11 rfl)
theorem dX8_feed_12 : decode cX8_feed 12 = .ok (.ireturn, 1) := dop_172 (dn_w dw67_0 12 rfl)
theorem dX8_feed_13 : decode cX8_feed 13 = .ok (.aload_n 0, 1) := dop_42 (dn_w dw67_0 13 rfl)
theorem dX8_feed_14 : decode cX8_feed 14 = .ok (.getfield 33, 3) := dop_180 (dn_w dw67_0 14 rfl) rfl
theorem dX8_feed_17 : decode cX8_feed 17 = .ok (.lload_n 1, 1) := dop_31 (dn_w dw67_1 1 rfl)
theorem dX8_feed_18 : decode cX8_feed 18 = .ok (.iload_n 3, 1) := dop_29 (dn_w dw67_1 2 rfl)
theorem dX8_feed_19 : decode cX8_feed 19 = .ok (.invokevirtual 65, 3) := dop_182 (dn_w dw67_1 3 rfl) rfl
theorem dX8_feed_22 : decode cX8_feed 22 = .ok (.ifCond .eq 13, 3) := dop_153 (dn_w dw67_1 6 rfl) rfl
theorem dX8_feed_25 : decode cX8_feed 25 = .ok (.aload_n 0, 1) := dop_42 (dn_w dw67_1 9 rfl)
theorem dX8_feed_26 : decode cX8_feed 26 = .ok (.getfield 33, 3) := dop_180 (dn_w dw67_1 10 rfl) rfl
theorem dX8_feed_29 : decode cX8_feed 29 = .ok (.getfield 69, 3) := dop_180 (dn_w dw67_1 13 rfl) rfl
theorem dX8_feed_32 : decode cX8_feed 32 = .ok (.goto 5, 3) := dop_167 (dn_w dw67_2 0 rfl) rfl
theorem dX8_feed_35 : decode cX8_feed 35 = .ok (.bipush (-2), 2) := dop_16 (dn_w dw67_2 3 rfl) rfl
theorem dX8_feed_37 : decode cX8_feed 37 = .ok (.ireturn, 1) := dop_172 (dn_w dw67_2 5 rfl)
noncomputable def dt68_3 : List Nat := 0 :: 87 :: 172 :: []
noncomputable def dt68_2 : List Nat := 182 :: 0 :: 80 :: 42 :: 180 :: 0 :: 40 :: 3 :: 181 :: 0 :: 84 :: 42 :: 180 :: 0 :: 10 :: 180 :: dt68_3
noncomputable def dt68_1 : List Nat := 16 :: 156 :: 27 :: 100 :: 172 :: 42 :: 180 :: 0 :: 10 :: 42 :: 180 :: 0 :: 33 :: 180 :: 0 :: 77 :: dt68_2
noncomputable def dt68_0 : List Nat := 42 :: 180 :: 0 :: 33 :: 42 :: 180 :: 0 :: 10 :: 182 :: 0 :: 73 :: 60 :: 27 :: 155 :: 0 :: 8 :: dt68_1
theorem dw68_0 : dn cX8_school 0 = dt68_0 := by decide +kernel
theorem dw68_1 : dn cX8_school 16 = dt68_1 := dn_w dw68_0 16 rfl
theorem dw68_2 : dn cX8_school 32 = dt68_2 := dn_w dw68_1 16 rfl
theorem dw68_3 : dn cX8_school 48 = dt68_3 := dn_w dw68_2 16 rfl
theorem dX8_school_0 : decode cX8_school 0 = .ok (.aload_n 0, 1) := dop_42 (dn_w dw68_0 0 rfl)
theorem dX8_school_1 : decode cX8_school 1 = .ok (.getfield 33, 3) := dop_180 (dn_w dw68_0 1 rfl) rfl
theorem dX8_school_4 : decode cX8_school 4 = .ok (.aload_n 0, 1) := dop_42 (dn_w dw68_0 4 rfl)
theorem dX8_school_5 : decode cX8_school 5 = .ok (.getfield 10, 3) := dop_180 (dn_w dw68_0 5 rfl) rfl
theorem dX8_school_8 : decode cX8_school 8 = .ok (.invokevirtual 73, 3) := dop_182 (dn_w dw68_0 8 rfl) rfl
theorem dX8_school_11 : decode cX8_school 11 = .ok (.istore_n 1, 1) := dop_60 (dn_w dw68_0 11 rfl)
theorem dX8_school_12 : decode cX8_school 12 = .ok (.iload_n 1, 1) := dop_27 (dn_w dw68_0 12 rfl)
theorem dX8_school_13 : decode cX8_school 13 = .ok (.ifCond .lt 8, 3) := dop_155 (dn_w dw68_0 13 rfl) rfl
theorem dX8_school_16 : decode cX8_school 16 = .ok (.bipush (-100), 2) := dop_16 (dn_w dw68_1 0 rfl) rfl
theorem dX8_school_18 : decode cX8_school 18 = .ok (.iload_n 1, 1) := dop_27 (dn_w dw68_1 2 rfl)
theorem dX8_school_19 : decode cX8_school 19 = .ok (.isub, 1) := dop_100 (dn_w dw68_1 3 rfl)
theorem dX8_school_20 : decode cX8_school 20 = .ok (.ireturn, 1) := dop_172 (dn_w dw68_1 4 rfl)
theorem dX8_school_21 : decode cX8_school 21 = .ok (.aload_n 0, 1) := dop_42 (dn_w dw68_1 5 rfl)
theorem dX8_school_22 : decode cX8_school 22 = .ok (.getfield 10, 3) := dop_180 (dn_w dw68_1 6 rfl) rfl
theorem dX8_school_25 : decode cX8_school 25 = .ok (.aload_n 0, 1) := dop_42 (dn_w dw68_1 9 rfl)
theorem dX8_school_26 : decode cX8_school 26 = .ok (.getfield 33, 3) := dop_180 (dn_w dw68_1 10 rfl) rfl
theorem dX8_school_29 : decode cX8_school 29 = .ok (.getfield 77, 3) := dop_180 (dn_w dw68_1 13 rfl) rfl
theorem dX8_school_32 : decode cX8_school 32 = .ok (.invokevirtual 80, 3) := dop_182 (dn_w dw68_2 0 rfl) rfl
theorem dX8_school_35 : decode cX8_school 35 = .ok (.aload_n 0, 1) := dop_42 (dn_w dw68_2 3 rfl)
theorem dX8_school_36 : decode cX8_school 36 = .ok (.getfield 40, 3) := dop_180 (dn_w dw68_2 4 rfl) rfl
theorem dX8_school_39 : decode cX8_school 39 = .ok (.iconst 0, 1) := dop_3 (dn_w dw68_2 7 rfl)
theorem dX8_school_40 : decode cX8_school 40 = .ok (.putfield 84, 3) := dop_181 (dn_w dw68_2 8 rfl) rfl
theorem dX8_school_43 : decode cX8_school 43 = .ok (.aload_n 0, 1) := dop_42 (dn_w dw68_2 11 rfl)
theorem dX8_school_44 : decode cX8_school 44 = .ok (.getfield 10, 3) := dop_180 (dn_w dw68_2 12 rfl) rfl
theorem dX8_school_47 : decode cX8_school 47 = .ok (.getfield 87, 3) := dop_180 (dn_w dw68_2 15 rfl) rfl
theorem dX8_school_50 : decode cX8_school 50 = .ok (.ireturn, 1) := dop_172 (dn_w dw68_3 2 rfl)
noncomputable def dt69_4 : List Nat := 172 :: []
noncomputable def dt69_3 : List Nat := 0 :: 15 :: 42 :: 180 :: 0 :: 10 :: 180 :: 0 :: 87 :: 4 :: 100 :: 167 :: 0 :: 5 :: 16 :: 254 :: dt69_4
noncomputable def dt69_2 : List Nat := 5 :: 2 :: 172 :: 42 :: 180 :: 0 :: 10 :: 27 :: 28 :: 29 :: 21 :: 4 :: 182 :: 0 :: 98 :: 153 :: dt69_3
noncomputable def dt69_1 : List Nat := 0 :: 95 :: 153 :: 0 :: 15 :: 21 :: 4 :: 155 :: 0 :: 10 :: 21 :: 4 :: 16 :: 9 :: 164 :: 0 :: dt69_2
noncomputable def dt69_0 : List Nat := 27 :: 184 :: 0 :: 88 :: 153 :: 0 :: 29 :: 28 :: 184 :: 0 :: 92 :: 153 :: 0 :: 22 :: 29 :: 184 :: dt69_1
theorem dw69_0 : dn cX8_child 0 = dt69_0 := by decide +kernel
theorem dw69_1 : dn cX8_child 16 = dt69_1 := dn_w dw69_0 16 rfl
theorem dw69_2 : dn cX8_child 32 = dt69_2 := dn_w dw69_1 16 rfl
theorem dw69_3 : dn cX8_child 48 = dt69_3 := dn_w dw69_2 16 rfl
theorem dw69_4 : dn cX8_child 64 = dt69_4 := dn_w dw69_3 16 rfl
theorem dX8_child_0 : decode cX8_child 0 = .ok (.iload_n 1, 1) := dop_27 (dn_w dw69_0 0 rfl)
theorem dX8_child_1 : decode cX8_child 1 = .ok (.invokestatic 88, 3) := dop_184 (dn_w dw69_0 1 rfl) rfl
theorem dX8_child_4 : decode cX8_child 4 = .ok (.ifCond .eq 29, 3) := dop_153 (dn_w dw69_0 4 rfl) rfl
theorem dX8_child_7 : decode cX8_child 7 = .ok (.iload_n 2, 1) := dop_28 (dn_w dw69_0 7 rfl)
theorem dX8_child_8 : decode cX8_child 8 = .ok (.invokestatic 92, 3) := dop_184 (dn_w dw69_0 8 rfl) rfl
theorem dX8_child_11 : decode cX8_child 11 = .ok (.ifCond .eq 22, 3) := dop_153 (dn_w dw69_0 11 rfl) rfl
theorem dX8_child_14 : decode cX8_child 14 = .ok (.iload_n 3, 1) := dop_29 (dn_w dw69_0 14 rfl)
theorem dX8_child_15 : decode cX8_child 15 = .ok (.invokestatic 95, 3) := dop_184 (dn_w dw69_0 15 rfl) rfl
theorem dX8_child_18 : decode cX8_child 18 = .ok (.ifCond .eq 15, 3) := dop_153 (dn_w dw69_1 2 rfl) rfl
theorem dX8_child_21 : decode cX8_child 21 = .ok (.iload 4, 2) := dop_21 (dn_w dw69_1 5 rfl)
theorem dX8_child_23 : decode cX8_child 23 = .ok (.ifCond .lt 10, 3) := dop_155 (dn_w dw69_1 7 rfl) rfl
theorem dX8_child_26 : decode cX8_child 26 = .ok (.iload 4, 2) := dop_21 (dn_w dw69_1 10 rfl)
theorem dX8_child_28 : decode cX8_child 28 = .ok (.bipush 9, 2) := dop_16 (dn_w dw69_1 12 rfl) rfl
theorem dX8_child_30 : decode cX8_child 30 = .ok (.if_icmp .le 5, 3) := dop_164 (dn_w dw69_1 14 rfl) rfl
theorem dX8_child_33 : decode cX8_child 33 = .ok (.iconst (-1), 1) := dop_2 (dn_w dw69_2 1 rfl)
theorem dX8_child_34 : decode cX8_child 34 = .ok (.ireturn, 1) := dop_172 (dn_w dw69_2 2 rfl)
theorem dX8_child_35 : decode cX8_child 35 = .ok (.aload_n 0, 1) := dop_42 (dn_w dw69_2 3 rfl)
theorem dX8_child_36 : decode cX8_child 36 = .ok (.getfield 10, 3) := dop_180 (dn_w dw69_2 4 rfl) rfl
theorem dX8_child_39 : decode cX8_child 39 = .ok (.iload_n 1, 1) := dop_27 (dn_w dw69_2 7 rfl)
theorem dX8_child_40 : decode cX8_child 40 = .ok (.iload_n 2, 1) := dop_28 (dn_w dw69_2 8 rfl)
theorem dX8_child_41 : decode cX8_child 41 = .ok (.iload_n 3, 1) := dop_29 (dn_w dw69_2 9 rfl)
theorem dX8_child_42 : decode cX8_child 42 = .ok (.iload 4, 2) := dop_21 (dn_w dw69_2 10 rfl)
theorem dX8_child_44 : decode cX8_child 44 = .ok (.invokevirtual 98, 3) := dop_182 (dn_w dw69_2 12 rfl) rfl
theorem dX8_child_47 : decode cX8_child 47 = .ok (.ifCond .eq 15, 3) := dop_153 (dn_w dw69_2 15 rfl) rfl
theorem dX8_child_50 : decode cX8_child 50 = .ok (.aload_n 0, 1) := dop_42 (dn_w dw69_3 2 rfl)
theorem dX8_child_51 : decode cX8_child 51 = .ok (.getfield 10, 3) := dop_180 (dn_w dw69_3 3 rfl) rfl
theorem dX8_child_54 : decode cX8_child 54 = .ok (.getfield 87, 3) := dop_180 (dn_w dw69_3 6 rfl) rfl
theorem dX8_child_57 : decode cX8_child 57 = .ok (.iconst 1, 1) := dop_4 (dn_w dw69_3 9 rfl)
theorem dX8_child_58 : decode cX8_child 58 = .ok (.isub, 1) := dop_100 (dn_w dw69_3 10 rfl)
theorem dX8_child_59 : decode cX8_child 59 = .ok (.goto 5, 3) := dop_167 (dn_w dw69_3 11 rfl) rfl
theorem dX8_child_62 : decode cX8_child 62 = .ok (.bipush (-2), 2) := dop_16 (dn_w dw69_3 14 rfl) rfl
theorem dX8_child_64 : decode cX8_child 64 = .ok (.ireturn, 1) := dop_172 (dn_w dw69_4 0 rfl)
noncomputable def dt70_1 : List Nat := 28 :: 182 :: 0 :: 105 :: 167 :: 0 :: 4 :: 2 :: 172 :: []
noncomputable def dt70_0 : List Nat := 42 :: 180 :: 0 :: 10 :: 27 :: 182 :: 0 :: 102 :: 153 :: 0 :: 15 :: 42 :: 180 :: 0 :: 10 :: 27 :: dt70_1
theorem dw70_0 : dn cX8_childOf 0 = dt70_0 := by decide +kernel
theorem dw70_1 : dn cX8_childOf 16 = dt70_1 := dn_w dw70_0 16 rfl
theorem dX8_childOf_0 : decode cX8_childOf 0 = .ok (.aload_n 0, 1) := dop_42 (dn_w dw70_0 0 rfl)
theorem dX8_childOf_1 : decode cX8_childOf 1 = .ok (.getfield 10, 3) := dop_180 (dn_w dw70_0 1 rfl) rfl
theorem dX8_childOf_4 : decode cX8_childOf 4 = .ok (.iload_n 1, 1) := dop_27 (dn_w dw70_0 4 rfl)
theorem dX8_childOf_5 : decode cX8_childOf 5 = .ok (.invokevirtual 102, 3) := dop_182 (dn_w dw70_0 5 rfl) rfl
theorem dX8_childOf_8 : decode cX8_childOf 8 = .ok (.ifCond .eq 15, 3) := dop_153 (dn_w dw70_0 8 rfl) rfl
theorem dX8_childOf_11 : decode cX8_childOf 11 = .ok (.aload_n 0, 1) := dop_42 (dn_w dw70_0 11 rfl)
theorem dX8_childOf_12 : decode cX8_childOf 12 = .ok (.getfield 10, 3) := dop_180 (dn_w dw70_0 12 rfl) rfl
theorem dX8_childOf_15 : decode cX8_childOf 15 = .ok (.iload_n 1, 1) := dop_27 (dn_w dw70_0 15 rfl)
theorem dX8_childOf_16 : decode cX8_childOf 16 = .ok (.iload_n 2, 1) := dop_28 (dn_w dw70_1 0 rfl)
theorem dX8_childOf_17 : decode cX8_childOf 17 = .ok (.invokevirtual 105, 3) := dop_182 (dn_w dw70_1 1 rfl) rfl
theorem dX8_childOf_20 : decode cX8_childOf 20 = .ok (.goto 4, 3) := dop_167 (dn_w dw70_1 4 rfl) rfl
theorem dX8_childOf_23 : decode cX8_childOf 23 = .ok (.iconst (-1), 1) := dop_2 (dn_w dw70_1 7 rfl)
theorem dX8_childOf_24 : decode cX8_childOf 24 = .ok (.ireturn, 1) := dop_172 (dn_w dw70_1 8 rfl)
noncomputable def dt71_3 : List Nat := 42 :: 180 :: 0 :: 10 :: 180 :: 0 :: 113 :: 27 :: 29 :: 79 :: 21 :: 4 :: 172 :: []
noncomputable def dt71_2 : List Nat := 0 :: 109 :: 27 :: 46 :: 54 :: 4 :: 42 :: 180 :: 0 :: 10 :: 180 :: 0 :: 109 :: 27 :: 28 :: 79 :: dt71_3
noncomputable def dt71_1 : List Nat := 0 :: 10 :: 29 :: 184 :: 0 :: 92 :: 154 :: 0 :: 5 :: 2 :: 172 :: 42 :: 180 :: 0 :: 10 :: 180 :: dt71_2
noncomputable def dt71_0 : List Nat := 42 :: 180 :: 0 :: 10 :: 27 :: 182 :: 0 :: 102 :: 153 :: 0 :: 17 :: 28 :: 184 :: 0 :: 88 :: 153 :: dt71_1
theorem dw71_0 : dn cX8_mind 0 = dt71_0 := by decide +kernel
theorem dw71_1 : dn cX8_mind 16 = dt71_1 := dn_w dw71_0 16 rfl
theorem dw71_2 : dn cX8_mind 32 = dt71_2 := dn_w dw71_1 16 rfl
theorem dw71_3 : dn cX8_mind 48 = dt71_3 := dn_w dw71_2 16 rfl
theorem dX8_mind_0 : decode cX8_mind 0 = .ok (.aload_n 0, 1) := dop_42 (dn_w dw71_0 0 rfl)
theorem dX8_mind_1 : decode cX8_mind 1 = .ok (.getfield 10, 3) := dop_180 (dn_w dw71_0 1 rfl) rfl
theorem dX8_mind_4 : decode cX8_mind 4 = .ok (.iload_n 1, 1) := dop_27 (dn_w dw71_0 4 rfl)
theorem dX8_mind_5 : decode cX8_mind 5 = .ok (.invokevirtual 102, 3) := dop_182 (dn_w dw71_0 5 rfl) rfl
theorem dX8_mind_8 : decode cX8_mind 8 = .ok (.ifCond .eq 17, 3) := dop_153 (dn_w dw71_0 8 rfl) rfl
theorem dX8_mind_11 : decode cX8_mind 11 = .ok (.iload_n 2, 1) := dop_28 (dn_w dw71_0 11 rfl)
theorem dX8_mind_12 : decode cX8_mind 12 = .ok (.invokestatic 88, 3) := dop_184 (dn_w dw71_0 12 rfl) rfl
theorem dX8_mind_15 : decode cX8_mind 15 = .ok (.ifCond .eq 10, 3) := dop_153 (dn_w dw71_0 15 rfl) rfl
theorem dX8_mind_18 : decode cX8_mind 18 = .ok (.iload_n 3, 1) := dop_29 (dn_w dw71_1 2 rfl)
theorem dX8_mind_19 : decode cX8_mind 19 = .ok (.invokestatic 92, 3) := dop_184 (dn_w dw71_1 3 rfl) rfl
theorem dX8_mind_22 : decode cX8_mind 22 = .ok (.ifCond .ne 5, 3) := dop_154 (dn_w dw71_1 6 rfl) rfl
theorem dX8_mind_25 : decode cX8_mind 25 = .ok (.iconst (-1), 1) := dop_2 (dn_w dw71_1 9 rfl)
theorem dX8_mind_26 : decode cX8_mind 26 = .ok (.ireturn, 1) := dop_172 (dn_w dw71_1 10 rfl)
theorem dX8_mind_27 : decode cX8_mind 27 = .ok (.aload_n 0, 1) := dop_42 (dn_w dw71_1 11 rfl)
theorem dX8_mind_28 : decode cX8_mind 28 = .ok (.getfield 10, 3) := dop_180 (dn_w dw71_1 12 rfl) rfl
theorem dX8_mind_31 : decode cX8_mind 31 = .ok (.getfield 109, 3) := dop_180 (dn_w dw71_1 15 rfl) rfl
theorem dX8_mind_34 : decode cX8_mind 34 = .ok (.iload_n 1, 1) := dop_27 (dn_w dw71_2 2 rfl)
theorem dX8_mind_35 : decode cX8_mind 35 = .ok (.iaload, 1) := dop_46 (dn_w dw71_2 3 rfl)
theorem dX8_mind_36 : decode cX8_mind 36 = .ok (.istore 4, 2) := dop_54 (dn_w dw71_2 4 rfl)
theorem dX8_mind_38 : decode cX8_mind 38 = .ok (.aload_n 0, 1) := dop_42 (dn_w dw71_2 6 rfl)
theorem dX8_mind_39 : decode cX8_mind 39 = .ok (.getfield 10, 3) := dop_180 (dn_w dw71_2 7 rfl) rfl
theorem dX8_mind_42 : decode cX8_mind 42 = .ok (.getfield 109, 3) := dop_180 (dn_w dw71_2 10 rfl) rfl
theorem dX8_mind_45 : decode cX8_mind 45 = .ok (.iload_n 1, 1) := dop_27 (dn_w dw71_2 13 rfl)
theorem dX8_mind_46 : decode cX8_mind 46 = .ok (.iload_n 2, 1) := dop_28 (dn_w dw71_2 14 rfl)
theorem dX8_mind_47 : decode cX8_mind 47 = .ok (.iastore, 1) := dop_79 (dn_w dw71_2 15 rfl)
theorem dX8_mind_48 : decode cX8_mind 48 = .ok (.aload_n 0, 1) := dop_42 (dn_w dw71_3 0 rfl)
theorem dX8_mind_49 : decode cX8_mind 49 = .ok (.getfield 10, 3) := dop_180 (dn_w dw71_3 1 rfl) rfl
theorem dX8_mind_52 : decode cX8_mind 52 = .ok (.getfield 113, 3) := dop_180 (dn_w dw71_3 4 rfl) rfl
theorem dX8_mind_55 : decode cX8_mind 55 = .ok (.iload_n 1, 1) := dop_27 (dn_w dw71_3 7 rfl)
theorem dX8_mind_56 : decode cX8_mind 56 = .ok (.iload_n 3, 1) := dop_29 (dn_w dw71_3 8 rfl)
theorem dX8_mind_57 : decode cX8_mind 57 = .ok (.iastore, 1) := dop_79 (dn_w dw71_3 9 rfl)
theorem dX8_mind_58 : decode cX8_mind 58 = .ok (.iload 4, 2) := dop_21 (dn_w dw71_3 10 rfl)
theorem dX8_mind_60 : decode cX8_mind 60 = .ok (.ireturn, 1) := dop_172 (dn_w dw71_3 12 rfl)
noncomputable def dt72_2 : List Nat := 62 :: 42 :: 180 :: 0 :: 10 :: 180 :: 0 :: 116 :: 27 :: 28 :: 79 :: 29 :: 172 :: []
noncomputable def dt72_1 : List Nat := 16 :: 20 :: 164 :: 0 :: 5 :: 2 :: 172 :: 42 :: 180 :: 0 :: 10 :: 180 :: 0 :: 116 :: 27 :: 46 :: dt72_2
noncomputable def dt72_0 : List Nat := 42 :: 180 :: 0 :: 10 :: 27 :: 182 :: 0 :: 102 :: 153 :: 0 :: 13 :: 28 :: 155 :: 0 :: 9 :: 28 :: dt72_1
theorem dw72_0 : dn cX8_sick 0 = dt72_0 := by decide +kernel
theorem dw72_1 : dn cX8_sick 16 = dt72_1 := dn_w dw72_0 16 rfl
theorem dw72_2 : dn cX8_sick 32 = dt72_2 := dn_w dw72_1 16 rfl
theorem dX8_sick_0 : decode cX8_sick 0 = .ok (.aload_n 0, 1) := dop_42 (dn_w dw72_0 0 rfl)
theorem dX8_sick_1 : decode cX8_sick 1 = .ok (.getfield 10, 3) := dop_180 (dn_w dw72_0 1 rfl) rfl
theorem dX8_sick_4 : decode cX8_sick 4 = .ok (.iload_n 1, 1) := dop_27 (dn_w dw72_0 4 rfl)
theorem dX8_sick_5 : decode cX8_sick 5 = .ok (.invokevirtual 102, 3) := dop_182 (dn_w dw72_0 5 rfl) rfl
theorem dX8_sick_8 : decode cX8_sick 8 = .ok (.ifCond .eq 13, 3) := dop_153 (dn_w dw72_0 8 rfl) rfl
theorem dX8_sick_11 : decode cX8_sick 11 = .ok (.iload_n 2, 1) := dop_28 (dn_w dw72_0 11 rfl)
theorem dX8_sick_12 : decode cX8_sick 12 = .ok (.ifCond .lt 9, 3) := dop_155 (dn_w dw72_0 12 rfl) rfl
theorem dX8_sick_15 : decode cX8_sick 15 = .ok (.iload_n 2, 1) := dop_28 (dn_w dw72_0 15 rfl)
theorem dX8_sick_16 : decode cX8_sick 16 = .ok (.bipush 20, 2) := dop_16 (dn_w dw72_1 0 rfl) rfl
theorem dX8_sick_18 : decode cX8_sick 18 = .ok (.if_icmp .le 5, 3) := dop_164 (dn_w dw72_1 2 rfl) rfl
theorem dX8_sick_21 : decode cX8_sick 21 = .ok (.iconst (-1), 1) := dop_2 (dn_w dw72_1 5 rfl)
theorem dX8_sick_22 : decode cX8_sick 22 = .ok (.ireturn, 1) := dop_172 (dn_w dw72_1 6 rfl)
theorem dX8_sick_23 : decode cX8_sick 23 = .ok (.aload_n 0, 1) := dop_42 (dn_w dw72_1 7 rfl)
theorem dX8_sick_24 : decode cX8_sick 24 = .ok (.getfield 10, 3) := dop_180 (dn_w dw72_1 8 rfl) rfl
theorem dX8_sick_27 : decode cX8_sick 27 = .ok (.getfield 116, 3) := dop_180 (dn_w dw72_1 11 rfl) rfl
theorem dX8_sick_30 : decode cX8_sick 30 = .ok (.iload_n 1, 1) := dop_27 (dn_w dw72_1 14 rfl)
theorem dX8_sick_31 : decode cX8_sick 31 = .ok (.iaload, 1) := dop_46 (dn_w dw72_1 15 rfl)
theorem dX8_sick_32 : decode cX8_sick 32 = .ok (.istore_n 3, 1) := dop_62 (dn_w dw72_2 0 rfl)
theorem dX8_sick_33 : decode cX8_sick 33 = .ok (.aload_n 0, 1) := dop_42 (dn_w dw72_2 1 rfl)
theorem dX8_sick_34 : decode cX8_sick 34 = .ok (.getfield 10, 3) := dop_180 (dn_w dw72_2 2 rfl) rfl
theorem dX8_sick_37 : decode cX8_sick 37 = .ok (.getfield 116, 3) := dop_180 (dn_w dw72_2 5 rfl) rfl
theorem dX8_sick_40 : decode cX8_sick 40 = .ok (.iload_n 1, 1) := dop_27 (dn_w dw72_2 8 rfl)
theorem dX8_sick_41 : decode cX8_sick 41 = .ok (.iload_n 2, 1) := dop_28 (dn_w dw72_2 9 rfl)
theorem dX8_sick_42 : decode cX8_sick 42 = .ok (.iastore, 1) := dop_79 (dn_w dw72_2 10 rfl)
theorem dX8_sick_43 : decode cX8_sick 43 = .ok (.iload_n 3, 1) := dop_29 (dn_w dw72_2 11 rfl)
theorem dX8_sick_44 : decode cX8_sick 44 = .ok (.ireturn, 1) := dop_172 (dn_w dw72_2 12 rfl)
noncomputable def dt73_2 : List Nat := 10 :: 180 :: 0 :: 122 :: 27 :: 28 :: 79 :: 29 :: 172 :: []
noncomputable def dt73_1 : List Nat := 5 :: 2 :: 172 :: 42 :: 180 :: 0 :: 10 :: 180 :: 0 :: 122 :: 27 :: 46 :: 62 :: 42 :: 180 :: 0 :: dt73_2
noncomputable def dt73_0 : List Nat := 27 :: 184 :: 0 :: 119 :: 153 :: 0 :: 13 :: 28 :: 155 :: 0 :: 9 :: 28 :: 16 :: 31 :: 164 :: 0 :: dt73_1
theorem dw73_0 : dn cX8_event 0 = dt73_0 := by decide +kernel
theorem dw73_1 : dn cX8_event 16 = dt73_1 := dn_w dw73_0 16 rfl
theorem dw73_2 : dn cX8_event 32 = dt73_2 := dn_w dw73_1 16 rfl
theorem dX8_event_0 : decode cX8_event 0 = .ok (.iload_n 1, 1) := dop_27 (dn_w dw73_0 0 rfl)
theorem dX8_event_1 : decode cX8_event 1 = .ok (.invokestatic 119, 3) := dop_184 (dn_w dw73_0 1 rfl) rfl
theorem dX8_event_4 : decode cX8_event 4 = .ok (.ifCond .eq 13, 3) := dop_153 (dn_w dw73_0 4 rfl) rfl
theorem dX8_event_7 : decode cX8_event 7 = .ok (.iload_n 2, 1) := dop_28 (dn_w dw73_0 7 rfl)
theorem dX8_event_8 : decode cX8_event 8 = .ok (.ifCond .lt 9, 3) := dop_155 (dn_w dw73_0 8 rfl) rfl
theorem dX8_event_11 : decode cX8_event 11 = .ok (.iload_n 2, 1) := dop_28 (dn_w dw73_0 11 rfl)
theorem dX8_event_12 : decode cX8_event 12 = .ok (.bipush 31, 2) := dop_16 (dn_w dw73_0 12 rfl) rfl
theorem dX8_event_14 : decode cX8_event 14 = .ok (.if_icmp .le 5, 3) := dop_164 (dn_w dw73_0 14 rfl) rfl
theorem dX8_event_17 : decode cX8_event 17 = .ok (.iconst (-1), 1) := dop_2 (dn_w dw73_1 1 rfl)
theorem dX8_event_18 : decode cX8_event 18 = .ok (.ireturn, 1) := dop_172 (dn_w dw73_1 2 rfl)
theorem dX8_event_19 : decode cX8_event 19 = .ok (.aload_n 0, 1) := dop_42 (dn_w dw73_1 3 rfl)
theorem dX8_event_20 : decode cX8_event 20 = .ok (.getfield 10, 3) := dop_180 (dn_w dw73_1 4 rfl) rfl
theorem dX8_event_23 : decode cX8_event 23 = .ok (.getfield 122, 3) := dop_180 (dn_w dw73_1 7 rfl) rfl
theorem dX8_event_26 : decode cX8_event 26 = .ok (.iload_n 1, 1) := dop_27 (dn_w dw73_1 10 rfl)
theorem dX8_event_27 : decode cX8_event 27 = .ok (.iaload, 1) := dop_46 (dn_w dw73_1 11 rfl)
theorem dX8_event_28 : decode cX8_event 28 = .ok (.istore_n 3, 1) := dop_62 (dn_w dw73_1 12 rfl)
theorem dX8_event_29 : decode cX8_event 29 = .ok (.aload_n 0, 1) := dop_42 (dn_w dw73_1 13 rfl)
theorem dX8_event_30 : decode cX8_event 30 = .ok (.getfield 10, 3) := dop_180 (dn_w dw73_1 14 rfl) rfl
theorem dX8_event_33 : decode cX8_event 33 = .ok (.getfield 122, 3) := dop_180 (dn_w dw73_2 1 rfl) rfl
theorem dX8_event_36 : decode cX8_event 36 = .ok (.iload_n 1, 1) := dop_27 (dn_w dw73_2 4 rfl)
theorem dX8_event_37 : decode cX8_event 37 = .ok (.iload_n 2, 1) := dop_28 (dn_w dw73_2 5 rfl)
theorem dX8_event_38 : decode cX8_event 38 = .ok (.iastore, 1) := dop_79 (dn_w dw73_2 6 rfl)
theorem dX8_event_39 : decode cX8_event 39 = .ok (.iload_n 3, 1) := dop_29 (dn_w dw73_2 7 rfl)
theorem dX8_event_40 : decode cX8_event 40 = .ok (.ireturn, 1) := dop_172 (dn_w dw73_2 8 rfl)
noncomputable def dt74_4 : List Nat := 42 :: 180 :: 0 :: 10 :: 180 :: 0 :: 128 :: 27 :: 46 :: 172 :: 2 :: 172 :: []
noncomputable def dt74_3 : List Nat := 46 :: 172 :: 27 :: 8 :: 112 :: 172 :: 42 :: 180 :: 0 :: 10 :: 180 :: 0 :: 125 :: 27 :: 46 :: 172 :: dt74_4
noncomputable def dt74_2 : List Nat := 0 :: 0 :: 0 :: 44 :: 0 :: 0 :: 0 :: 54 :: 42 :: 180 :: 0 :: 10 :: 180 :: 0 :: 122 :: 27 :: dt74_3
noncomputable def dt74_1 : List Nat := 0 :: 0 :: 0 :: 0 :: 0 :: 0 :: 0 :: 3 :: 0 :: 0 :: 0 :: 30 :: 0 :: 0 :: 0 :: 40 :: dt74_2
noncomputable def dt74_0 : List Nat := 27 :: 184 :: 0 :: 119 :: 154 :: 0 :: 5 :: 2 :: 172 :: 28 :: 170 :: 0 :: 0 :: 0 :: 0 :: 64 :: dt74_1
theorem dw74_0 : dn cX8_dayOf 0 = dt74_0 := by decide +kernel
theorem dw74_1 : dn cX8_dayOf 16 = dt74_1 := dn_w dw74_0 16 rfl
theorem dw74_2 : dn cX8_dayOf 32 = dt74_2 := dn_w dw74_1 16 rfl
theorem dw74_3 : dn cX8_dayOf 48 = dt74_3 := dn_w dw74_2 16 rfl
theorem dw74_4 : dn cX8_dayOf 64 = dt74_4 := dn_w dw74_3 16 rfl
theorem dX8_dayOf_0 : decode cX8_dayOf 0 = .ok (.iload_n 1, 1) := dop_27 (dn_w dw74_0 0 rfl)
theorem dX8_dayOf_1 : decode cX8_dayOf 1 = .ok (.invokestatic 119, 3) := dop_184 (dn_w dw74_0 1 rfl) rfl
theorem dX8_dayOf_4 : decode cX8_dayOf 4 = .ok (.ifCond .ne 5, 3) := dop_154 (dn_w dw74_0 4 rfl) rfl
theorem dX8_dayOf_7 : decode cX8_dayOf 7 = .ok (.iconst (-1), 1) := dop_2 (dn_w dw74_0 7 rfl)
theorem dX8_dayOf_8 : decode cX8_dayOf 8 = .ok (.ireturn, 1) := dop_172 (dn_w dw74_0 8 rfl)
theorem dX8_dayOf_9 : decode cX8_dayOf 9 = .ok (.iload_n 2, 1) := dop_28 (dn_w dw74_0 9 rfl)
theorem dX8_dayOf_10 : decode cX8_dayOf 10 = .ok (.tableswitch 64 0 3 #[30, 40, 44, 54], 30) := by decide +kernel
theorem dX8_dayOf_40 : decode cX8_dayOf 40 = .ok (.aload_n 0, 1) := dop_42 (dn_w dw74_2 8 rfl)
theorem dX8_dayOf_41 : decode cX8_dayOf 41 = .ok (.getfield 10, 3) := dop_180 (dn_w dw74_2 9 rfl) rfl
theorem dX8_dayOf_44 : decode cX8_dayOf 44 = .ok (.getfield 122, 3) := dop_180 (dn_w dw74_2 12 rfl) rfl
theorem dX8_dayOf_47 : decode cX8_dayOf 47 = .ok (.iload_n 1, 1) := dop_27 (dn_w dw74_2 15 rfl)
theorem dX8_dayOf_48 : decode cX8_dayOf 48 = .ok (.iaload, 1) := dop_46 (dn_w dw74_3 0 rfl)
theorem dX8_dayOf_49 : decode cX8_dayOf 49 = .ok (.ireturn, 1) := dop_172 (dn_w dw74_3 1 rfl)
theorem dX8_dayOf_50 : decode cX8_dayOf 50 = .ok (.iload_n 1, 1) := dop_27 (dn_w dw74_3 2 rfl)
theorem dX8_dayOf_51 : decode cX8_dayOf 51 = .ok (.iconst 5, 1) := dop_8 (dn_w dw74_3 3 rfl)
theorem dX8_dayOf_52 : decode cX8_dayOf 52 = .ok (.irem, 1) := dop_112 (dn_w dw74_3 4 rfl)
theorem dX8_dayOf_53 : decode cX8_dayOf 53 = .ok (.ireturn, 1) := dop_172 (dn_w dw74_3 5 rfl)
theorem dX8_dayOf_54 : decode cX8_dayOf 54 = .ok (.aload_n 0, 1) := dop_42 (dn_w dw74_3 6 rfl)
theorem dX8_dayOf_55 : decode cX8_dayOf 55 = .ok (.getfield 10, 3) := dop_180 (dn_w dw74_3 7 rfl) rfl
theorem dX8_dayOf_58 : decode cX8_dayOf 58 = .ok (.getfield 125, 3) := dop_180 (dn_w dw74_3 10 rfl) rfl
theorem dX8_dayOf_61 : decode cX8_dayOf 61 = .ok (.iload_n 1, 1) := dop_27 (dn_w dw74_3 13 rfl)
theorem dX8_dayOf_62 : decode cX8_dayOf 62 = .ok (.iaload, 1) := dop_46 (dn_w dw74_3 14 rfl)
theorem dX8_dayOf_63 : decode cX8_dayOf 63 = .ok (.ireturn, 1) := dop_172 (dn_w dw74_3 15 rfl)
theorem dX8_dayOf_64 : decode cX8_dayOf 64 = .ok (.aload_n 0, 1) := dop_42 (dn_w dw74_4 0 rfl)
theorem dX8_dayOf_65 : decode cX8_dayOf 65 = .ok (.getfield 10, 3) := dop_180 (dn_w dw74_4 1 rfl) rfl
theorem dX8_dayOf_68 : decode cX8_dayOf 68 = .ok (.getfield 128, 3) := dop_180 (dn_w dw74_4 4 rfl) rfl
theorem dX8_dayOf_71 : decode cX8_dayOf 71 = .ok (.iload_n 1, 1) := dop_27 (dn_w dw74_4 7 rfl)
theorem dX8_dayOf_72 : decode cX8_dayOf 72 = .ok (.iaload, 1) := dop_46 (dn_w dw74_4 8 rfl)
theorem dX8_dayOf_73 : decode cX8_dayOf 73 = .ok (.ireturn, 1) := dop_172 (dn_w dw74_4 9 rfl)
theorem dX8_dayOf_74 : decode cX8_dayOf 74 = .ok (.iconst (-1), 1) := dop_2 (dn_w dw74_4 10 rfl)
theorem dX8_dayOf_75 : decode cX8_dayOf 75 = .ok (.ireturn, 1) := dop_172 (dn_w dw74_4 11 rfl)
noncomputable def dt75_3 : List Nat := 79 :: 29 :: 172 :: []
noncomputable def dt75_2 : List Nat := 10 :: 180 :: 0 :: 137 :: 27 :: 46 :: 62 :: 42 :: 180 :: 0 :: 10 :: 180 :: 0 :: 137 :: 27 :: 28 :: dt75_3
noncomputable def dt75_1 : List Nat := 0 :: 12 :: 28 :: 178 :: 0 :: 134 :: 27 :: 46 :: 164 :: 0 :: 5 :: 2 :: 172 :: 42 :: 180 :: 0 :: dt75_2
noncomputable def dt75_0 : List Nat := 27 :: 155 :: 0 :: 26 :: 27 :: 7 :: 162 :: 0 :: 21 :: 28 :: 178 :: 0 :: 131 :: 27 :: 46 :: 161 :: dt75_1
theorem dw75_0 : dn cX8_set 0 = dt75_0 := by decide +kernel
theorem dw75_1 : dn cX8_set 16 = dt75_1 := dn_w dw75_0 16 rfl
theorem dw75_2 : dn cX8_set 32 = dt75_2 := dn_w dw75_1 16 rfl
theorem dw75_3 : dn cX8_set 48 = dt75_3 := dn_w dw75_2 16 rfl
theorem dX8_set_0 : decode cX8_set 0 = .ok (.iload_n 1, 1) := dop_27 (dn_w dw75_0 0 rfl)
theorem dX8_set_1 : decode cX8_set 1 = .ok (.ifCond .lt 26, 3) := dop_155 (dn_w dw75_0 1 rfl) rfl
theorem dX8_set_4 : decode cX8_set 4 = .ok (.iload_n 1, 1) := dop_27 (dn_w dw75_0 4 rfl)
theorem dX8_set_5 : decode cX8_set 5 = .ok (.iconst 4, 1) := dop_7 (dn_w dw75_0 5 rfl)
theorem dX8_set_6 : decode cX8_set 6 = .ok (.if_icmp .ge 21, 3) := dop_162 (dn_w dw75_0 6 rfl) rfl
theorem dX8_set_9 : decode cX8_set 9 = .ok (.iload_n 2, 1) := dop_28 (dn_w dw75_0 9 rfl)
theorem dX8_set_10 : decode cX8_set 10 = .ok (.getstatic 131, 3) := dop_178 (dn_w dw75_0 10 rfl) rfl
theorem dX8_set_13 : decode cX8_set 13 = .ok (.iload_n 1, 1) := dop_27 (dn_w dw75_0 13 rfl)
theorem dX8_set_14 : decode cX8_set 14 = .ok (.iaload, 1) := dop_46 (dn_w dw75_0 14 rfl)
theorem dX8_set_15 : decode cX8_set 15 = .ok (.if_icmp .lt 12, 3) := dop_161 (dn_w dw75_0 15 rfl) rfl
theorem dX8_set_18 : decode cX8_set 18 = .ok (.iload_n 2, 1) := dop_28 (dn_w dw75_1 2 rfl)
theorem dX8_set_19 : decode cX8_set 19 = .ok (.getstatic 134, 3) := dop_178 (dn_w dw75_1 3 rfl) rfl
theorem dX8_set_22 : decode cX8_set 22 = .ok (.iload_n 1, 1) := dop_27 (dn_w dw75_1 6 rfl)
theorem dX8_set_23 : decode cX8_set 23 = .ok (.iaload, 1) := dop_46 (dn_w dw75_1 7 rfl)
theorem dX8_set_24 : decode cX8_set 24 = .ok (.if_icmp .le 5, 3) := dop_164 (dn_w dw75_1 8 rfl) rfl
theorem dX8_set_27 : decode cX8_set 27 = .ok (.iconst (-1), 1) := dop_2 (dn_w dw75_1 11 rfl)
theorem dX8_set_28 : decode cX8_set 28 = .ok (.ireturn, 1) := dop_172 (dn_w dw75_1 12 rfl)
theorem dX8_set_29 : decode cX8_set 29 = .ok (.aload_n 0, 1) := dop_42 (dn_w dw75_1 13 rfl)
theorem dX8_set_30 : decode cX8_set 30 = .ok (.getfield 10, 3) := dop_180 (dn_w dw75_1 14 rfl) rfl
theorem dX8_set_33 : decode cX8_set 33 = .ok (.getfield 137, 3) := dop_180 (dn_w dw75_2 1 rfl) rfl
theorem dX8_set_36 : decode cX8_set 36 = .ok (.iload_n 1, 1) := dop_27 (dn_w dw75_2 4 rfl)
theorem dX8_set_37 : decode cX8_set 37 = .ok (.iaload, 1) := dop_46 (dn_w dw75_2 5 rfl)
theorem dX8_set_38 : decode cX8_set 38 = .ok (.istore_n 3, 1) := dop_62 (dn_w dw75_2 6 rfl)
theorem dX8_set_39 : decode cX8_set 39 = .ok (.aload_n 0, 1) := dop_42 (dn_w dw75_2 7 rfl)
theorem dX8_set_40 : decode cX8_set 40 = .ok (.getfield 10, 3) := dop_180 (dn_w dw75_2 8 rfl) rfl
theorem dX8_set_43 : decode cX8_set 43 = .ok (.getfield 137, 3) := dop_180 (dn_w dw75_2 11 rfl) rfl
theorem dX8_set_46 : decode cX8_set 46 = .ok (.iload_n 1, 1) := dop_27 (dn_w dw75_2 14 rfl)
theorem dX8_set_47 : decode cX8_set 47 = .ok (.iload_n 2, 1) := dop_28 (dn_w dw75_2 15 rfl)
theorem dX8_set_48 : decode cX8_set 48 = .ok (.iastore, 1) := dop_79 (dn_w dw75_3 0 rfl)
theorem dX8_set_49 : decode cX8_set 49 = .ok (.iload_n 3, 1) := dop_29 (dn_w dw75_3 1 rfl)
theorem dX8_set_50 : decode cX8_set 50 = .ok (.ireturn, 1) := dop_172 (dn_w dw75_3 2 rfl)
noncomputable def dt76_0 : List Nat := 42 :: 180 :: 0 :: 10 :: 180 :: 0 :: 140 :: 172 :: []
theorem dw76_0 : dn cX8_today 0 = dt76_0 := by decide +kernel
theorem dX8_today_0 : decode cX8_today 0 = .ok (.aload_n 0, 1) := dop_42 (dn_w dw76_0 0 rfl)
theorem dX8_today_1 : decode cX8_today 1 = .ok (.getfield 10, 3) := dop_180 (dn_w dw76_0 1 rfl) rfl
theorem dX8_today_4 : decode cX8_today 4 = .ok (.getfield 140, 3) := dop_180 (dn_w dw76_0 4 rfl) rfl
theorem dX8_today_7 : decode cX8_today 7 = .ok (.ireturn, 1) := dop_172 (dn_w dw76_0 7 rfl)
noncomputable def dt77_2 : List Nat := 0 :: 147 :: 153 :: 0 :: 7 :: 4 :: 167 :: 0 :: 4 :: 3 :: 172 :: []
noncomputable def dt77_1 : List Nat := 10 :: 182 :: 0 :: 143 :: 153 :: 0 :: 6 :: 16 :: 252 :: 172 :: 42 :: 180 :: 0 :: 10 :: 27 :: 182 :: dt77_2
noncomputable def dt77_0 : List Nat := 42 :: 180 :: 0 :: 10 :: 27 :: 182 :: 0 :: 102 :: 154 :: 0 :: 5 :: 2 :: 172 :: 42 :: 180 :: 0 :: dt77_1
theorem dw77_0 : dn cX8_would 0 = dt77_0 := by decide +kernel
theorem dw77_1 : dn cX8_would 16 = dt77_1 := dn_w dw77_0 16 rfl
theorem dw77_2 : dn cX8_would 32 = dt77_2 := dn_w dw77_1 16 rfl
theorem dX8_would_0 : decode cX8_would 0 = .ok (.aload_n 0, 1) := dop_42 (dn_w dw77_0 0 rfl)
theorem dX8_would_1 : decode cX8_would 1 = .ok (.getfield 10, 3) := dop_180 (dn_w dw77_0 1 rfl) rfl
theorem dX8_would_4 : decode cX8_would 4 = .ok (.iload_n 1, 1) := dop_27 (dn_w dw77_0 4 rfl)
theorem dX8_would_5 : decode cX8_would 5 = .ok (.invokevirtual 102, 3) := dop_182 (dn_w dw77_0 5 rfl) rfl
theorem dX8_would_8 : decode cX8_would 8 = .ok (.ifCond .ne 5, 3) := dop_154 (dn_w dw77_0 8 rfl) rfl
theorem dX8_would_11 : decode cX8_would 11 = .ok (.iconst (-1), 1) := dop_2 (dn_w dw77_0 11 rfl)
theorem dX8_would_12 : decode cX8_would 12 = .ok (.ireturn, 1) := dop_172 (dn_w dw77_0 12 rfl)
theorem dX8_would_13 : decode cX8_would 13 = .ok (.aload_n 0, 1) := dop_42 (dn_w dw77_0 13 rfl)
theorem dX8_would_14 : decode cX8_would 14 = .ok (.getfield 10, 3) := dop_180 (dn_w dw77_0 14 rfl) rfl
theorem dX8_would_17 : decode cX8_would 17 = .ok (.invokevirtual 143, 3) := dop_182 (dn_w dw77_1 1 rfl) rfl
theorem dX8_would_20 : decode cX8_would 20 = .ok (.ifCond .eq 6, 3) := dop_153 (dn_w dw77_1 4 rfl) rfl
theorem dX8_would_23 : decode cX8_would 23 = .ok (.bipush (-4), 2) := dop_16 (dn_w dw77_1 7 rfl) rfl
theorem dX8_would_25 : decode cX8_would 25 = .ok (.ireturn, 1) := dop_172 (dn_w dw77_1 9 rfl)
theorem dX8_would_26 : decode cX8_would 26 = .ok (.aload_n 0, 1) := dop_42 (dn_w dw77_1 10 rfl)
theorem dX8_would_27 : decode cX8_would 27 = .ok (.getfield 10, 3) := dop_180 (dn_w dw77_1 11 rfl) rfl
theorem dX8_would_30 : decode cX8_would 30 = .ok (.iload_n 1, 1) := dop_27 (dn_w dw77_1 14 rfl)
theorem dX8_would_31 : decode cX8_would 31 = .ok (.invokevirtual 147, 3) := dop_182 (dn_w dw77_1 15 rfl) rfl
theorem dX8_would_34 : decode cX8_would 34 = .ok (.ifCond .eq 7, 3) := dop_153 (dn_w dw77_2 2 rfl) rfl
theorem dX8_would_37 : decode cX8_would 37 = .ok (.iconst 1, 1) := dop_4 (dn_w dw77_2 5 rfl)
theorem dX8_would_38 : decode cX8_would 38 = .ok (.goto 4, 3) := dop_167 (dn_w dw77_2 6 rfl) rfl
theorem dX8_would_41 : decode cX8_would 41 = .ok (.iconst 0, 1) := dop_3 (dn_w dw77_2 9 rfl)
theorem dX8_would_42 : decode cX8_would 42 = .ok (.ireturn, 1) := dop_172 (dn_w dw77_2 10 rfl)
noncomputable def dt78_3 : List Nat := 0 :: 140 :: 172 :: []
noncomputable def dt78_2 : List Nat := 10 :: 182 :: 0 :: 150 :: 87 :: 132 :: 2 :: 1 :: 167 :: 255 :: 230 :: 42 :: 180 :: 0 :: 10 :: 180 :: dt78_3
noncomputable def dt78_1 : List Nat := 162 :: 0 :: 27 :: 42 :: 180 :: 0 :: 10 :: 182 :: 0 :: 143 :: 154 :: 0 :: 17 :: 42 :: 180 :: 0 :: dt78_2
noncomputable def dt78_0 : List Nat := 27 :: 155 :: 0 :: 9 :: 27 :: 16 :: 40 :: 164 :: 0 :: 5 :: 2 :: 172 :: 3 :: 61 :: 28 :: 27 :: dt78_1
theorem dw78_0 : dn cX8_days 0 = dt78_0 := by decide +kernel
theorem dw78_1 : dn cX8_days 16 = dt78_1 := dn_w dw78_0 16 rfl
theorem dw78_2 : dn cX8_days 32 = dt78_2 := dn_w dw78_1 16 rfl
theorem dw78_3 : dn cX8_days 48 = dt78_3 := dn_w dw78_2 16 rfl
theorem dX8_days_0 : decode cX8_days 0 = .ok (.iload_n 1, 1) := dop_27 (dn_w dw78_0 0 rfl)
theorem dX8_days_1 : decode cX8_days 1 = .ok (.ifCond .lt 9, 3) := dop_155 (dn_w dw78_0 1 rfl) rfl
theorem dX8_days_4 : decode cX8_days 4 = .ok (.iload_n 1, 1) := dop_27 (dn_w dw78_0 4 rfl)
theorem dX8_days_5 : decode cX8_days 5 = .ok (.bipush 40, 2) := dop_16 (dn_w dw78_0 5 rfl) rfl
theorem dX8_days_7 : decode cX8_days 7 = .ok (.if_icmp .le 5, 3) := dop_164 (dn_w dw78_0 7 rfl) rfl
theorem dX8_days_10 : decode cX8_days 10 = .ok (.iconst (-1), 1) := dop_2 (dn_w dw78_0 10 rfl)
theorem dX8_days_11 : decode cX8_days 11 = .ok (.ireturn, 1) := dop_172 (dn_w dw78_0 11 rfl)
theorem dX8_days_12 : decode cX8_days 12 = .ok (.iconst 0, 1) := dop_3 (dn_w dw78_0 12 rfl)
theorem dX8_days_13 : decode cX8_days 13 = .ok (.istore_n 2, 1) := dop_61 (dn_w dw78_0 13 rfl)
theorem dX8_days_14 : decode cX8_days 14 = .ok (.iload_n 2, 1) := dop_28 (dn_w dw78_0 14 rfl)
theorem dX8_days_15 : decode cX8_days 15 = .ok (.iload_n 1, 1) := dop_27 (dn_w dw78_0 15 rfl)
theorem dX8_days_16 : decode cX8_days 16 = .ok (.if_icmp .ge 27, 3) := dop_162 (dn_w dw78_1 0 rfl) rfl
theorem dX8_days_19 : decode cX8_days 19 = .ok (.aload_n 0, 1) := dop_42 (dn_w dw78_1 3 rfl)
theorem dX8_days_20 : decode cX8_days 20 = .ok (.getfield 10, 3) := dop_180 (dn_w dw78_1 4 rfl) rfl
theorem dX8_days_23 : decode cX8_days 23 = .ok (.invokevirtual 143, 3) := dop_182 (dn_w dw78_1 7 rfl) rfl
theorem dX8_days_26 : decode cX8_days 26 = .ok (.ifCond .ne 17, 3) := dop_154 (dn_w dw78_1 10 rfl) rfl
theorem dX8_days_29 : decode cX8_days 29 = .ok (.aload_n 0, 1) := dop_42 (dn_w dw78_1 13 rfl)
theorem dX8_days_30 : decode cX8_days 30 = .ok (.getfield 10, 3) := dop_180 (dn_w dw78_1 14 rfl) rfl
theorem dX8_days_33 : decode cX8_days 33 = .ok (.invokevirtual 150, 3) := dop_182 (dn_w dw78_2 1 rfl) rfl
theorem dX8_days_36 : decode cX8_days 36 = .ok (.pop, 1) := dop_87 (dn_w dw78_2 4 rfl)
theorem dX8_days_37 : decode cX8_days 37 = .ok (.iinc 2 1, 3) := dop_132 (dn_w dw78_2 5 rfl) rfl
theorem dX8_days_40 : decode cX8_days 40 = .ok (.goto (-26), 3) := dop_167 (dn_w dw78_2 8 rfl) rfl
theorem dX8_days_43 : decode cX8_days 43 = .ok (.aload_n 0, 1) := dop_42 (dn_w dw78_2 11 rfl)
theorem dX8_days_44 : decode cX8_days 44 = .ok (.getfield 10, 3) := dop_180 (dn_w dw78_2 12 rfl) rfl
theorem dX8_days_47 : decode cX8_days 47 = .ok (.getfield 140, 3) := dop_180 (dn_w dw78_2 15 rfl) rfl
theorem dX8_days_50 : decode cX8_days 50 = .ok (.ireturn, 1) := dop_172 (dn_w dw78_3 2 rfl)
noncomputable def dt79_1 : List Nat := 0 :: 4 :: 2 :: 172 :: []
noncomputable def dt79_0 : List Nat := 27 :: 184 :: 0 :: 95 :: 153 :: 0 :: 14 :: 42 :: 180 :: 0 :: 10 :: 27 :: 182 :: 0 :: 154 :: 167 :: dt79_1
theorem dw79_0 : dn cX8_knock 0 = dt79_0 := by decide +kernel
theorem dw79_1 : dn cX8_knock 16 = dt79_1 := dn_w dw79_0 16 rfl
theorem dX8_knock_0 : decode cX8_knock 0 = .ok (.iload_n 1, 1) := dop_27 (dn_w dw79_0 0 rfl)
theorem dX8_knock_1 : decode cX8_knock 1 = .ok (.invokestatic 95, 3) := dop_184 (dn_w dw79_0 1 rfl) rfl
theorem dX8_knock_4 : decode cX8_knock 4 = .ok (.ifCond .eq 14, 3) := dop_153 (dn_w dw79_0 4 rfl) rfl
theorem dX8_knock_7 : decode cX8_knock 7 = .ok (.aload_n 0, 1) := dop_42 (dn_w dw79_0 7 rfl)
theorem dX8_knock_8 : decode cX8_knock 8 = .ok (.getfield 10, 3) := dop_180 (dn_w dw79_0 8 rfl) rfl
theorem dX8_knock_11 : decode cX8_knock 11 = .ok (.iload_n 1, 1) := dop_27 (dn_w dw79_0 11 rfl)
theorem dX8_knock_12 : decode cX8_knock 12 = .ok (.invokevirtual 154, 3) := dop_182 (dn_w dw79_0 12 rfl) rfl
theorem dX8_knock_15 : decode cX8_knock 15 = .ok (.goto 4, 3) := dop_167 (dn_w dw79_0 15 rfl) rfl
theorem dX8_knock_18 : decode cX8_knock 18 = .ok (.iconst (-1), 1) := dop_2 (dn_w dw79_1 2 rfl)
theorem dX8_knock_19 : decode cX8_knock 19 = .ok (.ireturn, 1) := dop_172 (dn_w dw79_1 3 rfl)
noncomputable def dt80_5 : List Nat := 0 :: 125 :: 27 :: 46 :: 21 :: 4 :: 159 :: 0 :: 7 :: 4 :: 167 :: 0 :: 4 :: 3 :: 172 :: []
noncomputable def dt80_4 : List Nat := 167 :: 0 :: 10 :: 21 :: 4 :: 21 :: 5 :: 2 :: 130 :: 126 :: 79 :: 42 :: 180 :: 0 :: 10 :: 180 :: dt80_5
noncomputable def dt80_3 : List Nat := 180 :: 0 :: 10 :: 180 :: 0 :: 125 :: 27 :: 29 :: 153 :: 0 :: 11 :: 21 :: 4 :: 21 :: 5 :: 128 :: dt80_4
noncomputable def dt80_2 : List Nat := 180 :: 0 :: 10 :: 180 :: 0 :: 125 :: 27 :: 46 :: 54 :: 4 :: 4 :: 28 :: 120 :: 54 :: 5 :: 42 :: dt80_3
noncomputable def dt80_1 : List Nat := 0 :: 14 :: 42 :: 180 :: 0 :: 10 :: 28 :: 182 :: 0 :: 102 :: 154 :: 0 :: 5 :: 2 :: 172 :: 42 :: dt80_2
noncomputable def dt80_0 : List Nat := 27 :: 184 :: 0 :: 119 :: 153 :: 0 :: 25 :: 27 :: 42 :: 180 :: 0 :: 10 :: 180 :: 0 :: 140 :: 162 :: dt80_1
theorem dw80_0 : dn cX8_write 0 = dt80_0 := by decide +kernel
theorem dw80_1 : dn cX8_write 16 = dt80_1 := dn_w dw80_0 16 rfl
theorem dw80_2 : dn cX8_write 32 = dt80_2 := dn_w dw80_1 16 rfl
theorem dw80_3 : dn cX8_write 48 = dt80_3 := dn_w dw80_2 16 rfl
theorem dw80_4 : dn cX8_write 64 = dt80_4 := dn_w dw80_3 16 rfl
theorem dw80_5 : dn cX8_write 80 = dt80_5 := dn_w dw80_4 16 rfl
theorem dX8_write_0 : decode cX8_write 0 = .ok (.iload_n 1, 1) := dop_27 (dn_w dw80_0 0 rfl)
theorem dX8_write_1 : decode cX8_write 1 = .ok (.invokestatic 119, 3) := dop_184 (dn_w dw80_0 1 rfl) rfl
theorem dX8_write_4 : decode cX8_write 4 = .ok (.ifCond .eq 25, 3) := dop_153 (dn_w dw80_0 4 rfl) rfl
theorem dX8_write_7 : decode cX8_write 7 = .ok (.iload_n 1, 1) := dop_27 (dn_w dw80_0 7 rfl)
theorem dX8_write_8 : decode cX8_write 8 = .ok (.aload_n 0, 1) := dop_42 (dn_w dw80_0 8 rfl)
theorem dX8_write_9 : decode cX8_write 9 = .ok (.getfield 10, 3) := dop_180 (dn_w dw80_0 9 rfl) rfl
theorem dX8_write_12 : decode cX8_write 12 = .ok (.getfield 140, 3) := dop_180 (dn_w dw80_0 12 rfl) rfl
theorem dX8_write_15 : decode cX8_write 15 = .ok (.if_icmp .ge 14, 3) := dop_162 (dn_w dw80_0 15 rfl) rfl
theorem dX8_write_18 : decode cX8_write 18 = .ok (.aload_n 0, 1) := dop_42 (dn_w dw80_1 2 rfl)
theorem dX8_write_19 : decode cX8_write 19 = .ok (.getfield 10, 3) := dop_180 (dn_w dw80_1 3 rfl) rfl
theorem dX8_write_22 : decode cX8_write 22 = .ok (.iload_n 2, 1) := dop_28 (dn_w dw80_1 6 rfl)
theorem dX8_write_23 : decode cX8_write 23 = .ok (.invokevirtual 102, 3) := dop_182 (dn_w dw80_1 7 rfl) rfl
theorem dX8_write_26 : decode cX8_write 26 = .ok (.ifCond .ne 5, 3) := dop_154 (dn_w dw80_1 10 rfl) rfl
theorem dX8_write_29 : decode cX8_write 29 = .ok (.iconst (-1), 1) := dop_2 (dn_w dw80_1 13 rfl)
theorem dX8_write_30 : decode cX8_write 30 = .ok (.ireturn, 1) := dop_172 (dn_w dw80_1 14 rfl)
theorem dX8_write_31 : decode cX8_write 31 = .ok (.aload_n 0, 1) := dop_42 (dn_w dw80_1 15 rfl)
theorem dX8_write_32 : decode cX8_write 32 = .ok (.getfield 10, 3) := dop_180 (dn_w dw80_2 0 rfl) rfl
theorem dX8_write_35 : decode cX8_write 35 = .ok (.getfield 125, 3) := dop_180 (dn_w dw80_2 3 rfl) rfl
theorem dX8_write_38 : decode cX8_write 38 = .ok (.iload_n 1, 1) := dop_27 (dn_w dw80_2 6 rfl)
theorem dX8_write_39 : decode cX8_write 39 = .ok (.iaload, 1) := dop_46 (dn_w dw80_2 7 rfl)
theorem dX8_write_40 : decode cX8_write 40 = .ok (.istore 4, 2) := dop_54 (dn_w dw80_2 8 rfl)
theorem dX8_write_42 : decode cX8_write 42 = .ok (.iconst 1, 1) := dop_4 (dn_w dw80_2 10 rfl)
theorem dX8_write_43 : decode cX8_write 43 = .ok (.iload_n 2, 1) := dop_28 (dn_w dw80_2 11 rfl)
theorem dX8_write_44 : decode cX8_write 44 = .ok (.ishl, 1) := dop_120 (dn_w dw80_2 12 rfl)
theorem dX8_write_45 : decode cX8_write 45 = .ok (.istore 5, 2) := dop_54 (dn_w dw80_2 13 rfl)
theorem dX8_write_47 : decode cX8_write 47 = .ok (.aload_n 0, 1) := dop_42 (dn_w dw80_2 15 rfl)
theorem dX8_write_48 : decode cX8_write 48 = .ok (.getfield 10, 3) := dop_180 (dn_w dw80_3 0 rfl) rfl
theorem dX8_write_51 : decode cX8_write 51 = .ok (.getfield 125, 3) := dop_180 (dn_w dw80_3 3 rfl) rfl
theorem dX8_write_54 : decode cX8_write 54 = .ok (.iload_n 1, 1) := dop_27 (dn_w dw80_3 6 rfl)
theorem dX8_write_55 : decode cX8_write 55 = .ok (.iload_n 3, 1) := dop_29 (dn_w dw80_3 7 rfl)
theorem dX8_write_56 : decode cX8_write 56 = .ok (.ifCond .eq 11, 3) := dop_153 (dn_w dw80_3 8 rfl) rfl
theorem dX8_write_59 : decode cX8_write 59 = .ok (.iload 4, 2) := dop_21 (dn_w dw80_3 11 rfl)
theorem dX8_write_61 : decode cX8_write 61 = .ok (.iload 5, 2) := dop_21 (dn_w dw80_3 13 rfl)
theorem dX8_write_63 : decode cX8_write 63 = .ok (.ior, 1) := dop_128 (dn_w dw80_3 15 rfl)
theorem dX8_write_64 : decode cX8_write 64 = .ok (.goto 10, 3) := dop_167 (dn_w dw80_4 0 rfl) rfl
theorem dX8_write_67 : decode cX8_write 67 = .ok (.iload 4, 2) := dop_21 (dn_w dw80_4 3 rfl)
theorem dX8_write_69 : decode cX8_write 69 = .ok (.iload 5, 2) := dop_21 (dn_w dw80_4 5 rfl)
theorem dX8_write_71 : decode cX8_write 71 = .ok (.iconst (-1), 1) := dop_2 (dn_w dw80_4 7 rfl)
theorem dX8_write_72 : decode cX8_write 72 = .ok (.ixor, 1) := dop_130 (dn_w dw80_4 8 rfl)
theorem dX8_write_73 : decode cX8_write 73 = .ok (.iand, 1) := dop_126 (dn_w dw80_4 9 rfl)
theorem dX8_write_74 : decode cX8_write 74 = .ok (.iastore, 1) := dop_79 (dn_w dw80_4 10 rfl)
theorem dX8_write_75 : decode cX8_write 75 = .ok (.aload_n 0, 1) := dop_42 (dn_w dw80_4 11 rfl)
theorem dX8_write_76 : decode cX8_write 76 = .ok (.getfield 10, 3) := dop_180 (dn_w dw80_4 12 rfl) rfl
theorem dX8_write_79 : decode cX8_write 79 = .ok (.getfield 125, 3) := dop_180 (dn_w dw80_4 15 rfl) rfl
theorem dX8_write_82 : decode cX8_write 82 = .ok (.iload_n 1, 1) := dop_27 (dn_w dw80_5 2 rfl)
theorem dX8_write_83 : decode cX8_write 83 = .ok (.iaload, 1) := dop_46 (dn_w dw80_5 3 rfl)
theorem dX8_write_84 : decode cX8_write 84 = .ok (.iload 4, 2) := dop_21 (dn_w dw80_5 4 rfl)
theorem dX8_write_86 : decode cX8_write 86 = .ok (.if_icmp .eq 7, 3) := dop_159 (dn_w dw80_5 6 rfl) rfl
theorem dX8_write_89 : decode cX8_write 89 = .ok (.iconst 1, 1) := dop_4 (dn_w dw80_5 9 rfl)
theorem dX8_write_90 : decode cX8_write 90 = .ok (.goto 4, 3) := dop_167 (dn_w dw80_5 10 rfl) rfl
theorem dX8_write_93 : decode cX8_write 93 = .ok (.iconst 0, 1) := dop_3 (dn_w dw80_5 13 rfl)
theorem dX8_write_94 : decode cX8_write 94 = .ok (.ireturn, 1) := dop_172 (dn_w dw80_5 14 rfl)
noncomputable def dt81_2 : List Nat := 153 :: 0 :: 6 :: 132 :: 2 :: 1 :: 132 :: 3 :: 1 :: 167 :: 255 :: 232 :: 28 :: 172 :: []
noncomputable def dt81_1 : List Nat := 62 :: 29 :: 16 :: 40 :: 162 :: 0 :: 24 :: 42 :: 180 :: 0 :: 10 :: 29 :: 27 :: 182 :: 0 :: 158 :: dt81_2
noncomputable def dt81_0 : List Nat := 42 :: 180 :: 0 :: 10 :: 27 :: 182 :: 0 :: 102 :: 154 :: 0 :: 5 :: 2 :: 172 :: 3 :: 61 :: 3 :: dt81_1
theorem dw81_0 : dn cX8_marks 0 = dt81_0 := by decide +kernel
theorem dw81_1 : dn cX8_marks 16 = dt81_1 := dn_w dw81_0 16 rfl
theorem dw81_2 : dn cX8_marks 32 = dt81_2 := dn_w dw81_1 16 rfl
theorem dX8_marks_0 : decode cX8_marks 0 = .ok (.aload_n 0, 1) := dop_42 (dn_w dw81_0 0 rfl)
theorem dX8_marks_1 : decode cX8_marks 1 = .ok (.getfield 10, 3) := dop_180 (dn_w dw81_0 1 rfl) rfl
theorem dX8_marks_4 : decode cX8_marks 4 = .ok (.iload_n 1, 1) := dop_27 (dn_w dw81_0 4 rfl)
theorem dX8_marks_5 : decode cX8_marks 5 = .ok (.invokevirtual 102, 3) := dop_182 (dn_w dw81_0 5 rfl) rfl
theorem dX8_marks_8 : decode cX8_marks 8 = .ok (.ifCond .ne 5, 3) := dop_154 (dn_w dw81_0 8 rfl) rfl
theorem dX8_marks_11 : decode cX8_marks 11 = .ok (.iconst (-1), 1) := dop_2 (dn_w dw81_0 11 rfl)
theorem dX8_marks_12 : decode cX8_marks 12 = .ok (.ireturn, 1) := dop_172 (dn_w dw81_0 12 rfl)
theorem dX8_marks_13 : decode cX8_marks 13 = .ok (.iconst 0, 1) := dop_3 (dn_w dw81_0 13 rfl)
theorem dX8_marks_14 : decode cX8_marks 14 = .ok (.istore_n 2, 1) := dop_61 (dn_w dw81_0 14 rfl)
theorem dX8_marks_15 : decode cX8_marks 15 = .ok (.iconst 0, 1) := dop_3 (dn_w dw81_0 15 rfl)
theorem dX8_marks_16 : decode cX8_marks 16 = .ok (.istore_n 3, 1) := dop_62 (dn_w dw81_1 0 rfl)
theorem dX8_marks_17 : decode cX8_marks 17 = .ok (.iload_n 3, 1) := dop_29 (dn_w dw81_1 1 rfl)
theorem dX8_marks_18 : decode cX8_marks 18 = .ok (.bipush 40, 2) := dop_16 (dn_w dw81_1 2 rfl) rfl
theorem dX8_marks_20 : decode cX8_marks 20 = .ok (.if_icmp .ge 24, 3) := dop_162 (dn_w dw81_1 4 rfl) rfl
theorem dX8_marks_23 : decode cX8_marks 23 = .ok (.aload_n 0, 1) := dop_42 (dn_w dw81_1 7 rfl)
theorem dX8_marks_24 : decode cX8_marks 24 = .ok (.getfield 10, 3) := dop_180 (dn_w dw81_1 8 rfl) rfl
theorem dX8_marks_27 : decode cX8_marks 27 = .ok (.iload_n 3, 1) := dop_29 (dn_w dw81_1 11 rfl)
theorem dX8_marks_28 : decode cX8_marks 28 = .ok (.iload_n 1, 1) := dop_27 (dn_w dw81_1 12 rfl)
theorem dX8_marks_29 : decode cX8_marks 29 = .ok (.invokevirtual 158, 3) := dop_182 (dn_w dw81_1 13 rfl) rfl
theorem dX8_marks_32 : decode cX8_marks 32 = .ok (.ifCond .eq 6, 3) := dop_153 (dn_w dw81_2 0 rfl) rfl
theorem dX8_marks_35 : decode cX8_marks 35 = .ok (.iinc 2 1, 3) := dop_132 (dn_w dw81_2 3 rfl) rfl
theorem dX8_marks_38 : decode cX8_marks 38 = .ok (.iinc 3 1, 3) := dop_132 (dn_w dw81_2 6 rfl) rfl
theorem dX8_marks_41 : decode cX8_marks 41 = .ok (.goto (-24), 3) := dop_167 (dn_w dw81_2 9 rfl) rfl
theorem dX8_marks_44 : decode cX8_marks 44 = .ok (.iload_n 2, 1) := dop_28 (dn_w dw81_2 12 rfl)
theorem dX8_marks_45 : decode cX8_marks 45 = .ok (.ireturn, 1) := dop_172 (dn_w dw81_2 13 rfl)
noncomputable def dt82_3 : List Nat := 182 :: 0 :: 168 :: 172 :: 2 :: 172 :: []
noncomputable def dt82_2 : List Nat := 182 :: 0 :: 162 :: 172 :: 42 :: 180 :: 0 :: 10 :: 182 :: 0 :: 165 :: 172 :: 42 :: 180 :: 0 :: 10 :: dt82_3
noncomputable def dt82_1 : List Nat := 0 :: 0 :: 0 :: 27 :: 0 :: 0 :: 0 :: 35 :: 0 :: 0 :: 0 :: 43 :: 42 :: 180 :: 0 :: 10 :: dt82_2
noncomputable def dt82_0 : List Nat := 27 :: 170 :: 0 :: 0 :: 0 :: 0 :: 0 :: 51 :: 0 :: 0 :: 0 :: 0 :: 0 :: 0 :: 0 :: 2 :: dt82_1
theorem dw82_0 : dn cX8_wrong 0 = dt82_0 := by decide +kernel
theorem dw82_1 : dn cX8_wrong 16 = dt82_1 := dn_w dw82_0 16 rfl
theorem dw82_2 : dn cX8_wrong 32 = dt82_2 := dn_w dw82_1 16 rfl
theorem dw82_3 : dn cX8_wrong 48 = dt82_3 := dn_w dw82_2 16 rfl
theorem dX8_wrong_0 : decode cX8_wrong 0 = .ok (.iload_n 1, 1) := dop_27 (dn_w dw82_0 0 rfl)
theorem dX8_wrong_1 : decode cX8_wrong 1 = .ok (.tableswitch 51 0 2 #[27, 35, 43], 27) := by decide +kernel
theorem dX8_wrong_28 : decode cX8_wrong 28 = .ok (.aload_n 0, 1) := dop_42 (dn_w dw82_1 12 rfl)
theorem dX8_wrong_29 : decode cX8_wrong 29 = .ok (.getfield 10, 3) := dop_180 (dn_w dw82_1 13 rfl) rfl
theorem dX8_wrong_32 : decode cX8_wrong 32 = .ok (.invokevirtual 162, 3) := dop_182 (dn_w dw82_2 0 rfl) rfl
theorem dX8_wrong_35 : decode cX8_wrong 35 = .ok (.ireturn, 1) := dop_172 (dn_w dw82_2 3 rfl)
theorem dX8_wrong_36 : decode cX8_wrong 36 = .ok (.aload_n 0, 1) := dop_42 (dn_w dw82_2 4 rfl)
theorem dX8_wrong_37 : decode cX8_wrong 37 = .ok (.getfield 10, 3) := dop_180 (dn_w dw82_2 5 rfl) rfl
theorem dX8_wrong_40 : decode cX8_wrong 40 = .ok (.invokevirtual 165, 3) := dop_182 (dn_w dw82_2 8 rfl) rfl
theorem dX8_wrong_43 : decode cX8_wrong 43 = .ok (.ireturn, 1) := dop_172 (dn_w dw82_2 11 rfl)
theorem dX8_wrong_44 : decode cX8_wrong 44 = .ok (.aload_n 0, 1) := dop_42 (dn_w dw82_2 12 rfl)
theorem dX8_wrong_45 : decode cX8_wrong 45 = .ok (.getfield 10, 3) := dop_180 (dn_w dw82_2 13 rfl) rfl
theorem dX8_wrong_48 : decode cX8_wrong 48 = .ok (.invokevirtual 168, 3) := dop_182 (dn_w dw82_3 0 rfl) rfl
theorem dX8_wrong_51 : decode cX8_wrong 51 = .ok (.ireturn, 1) := dop_172 (dn_w dw82_3 3 rfl)
theorem dX8_wrong_52 : decode cX8_wrong 52 = .ok (.iconst (-1), 1) := dop_2 (dn_w dw82_3 4 rfl)
theorem dX8_wrong_53 : decode cX8_wrong 53 = .ok (.ireturn, 1) := dop_172 (dn_w dw82_3 5 rfl)
noncomputable def dt83_1 : List Nat := 182 :: 0 :: 171 :: 167 :: 0 :: 4 :: 2 :: 172 :: []
noncomputable def dt83_0 : List Nat := 42 :: 180 :: 0 :: 10 :: 27 :: 182 :: 0 :: 102 :: 153 :: 0 :: 14 :: 42 :: 180 :: 0 :: 10 :: 27 :: dt83_1
theorem dw83_0 : dn cX8_longest 0 = dt83_0 := by decide +kernel
theorem dw83_1 : dn cX8_longest 16 = dt83_1 := dn_w dw83_0 16 rfl
theorem dX8_longest_0 : decode cX8_longest 0 = .ok (.aload_n 0, 1) := dop_42 (dn_w dw83_0 0 rfl)
theorem dX8_longest_1 : decode cX8_longest 1 = .ok (.getfield 10, 3) := dop_180 (dn_w dw83_0 1 rfl) rfl
theorem dX8_longest_4 : decode cX8_longest 4 = .ok (.iload_n 1, 1) := dop_27 (dn_w dw83_0 4 rfl)
theorem dX8_longest_5 : decode cX8_longest 5 = .ok (.invokevirtual 102, 3) := dop_182 (dn_w dw83_0 5 rfl) rfl
theorem dX8_longest_8 : decode cX8_longest 8 = .ok (.ifCond .eq 14, 3) := dop_153 (dn_w dw83_0 8 rfl) rfl
theorem dX8_longest_11 : decode cX8_longest 11 = .ok (.aload_n 0, 1) := dop_42 (dn_w dw83_0 11 rfl)
theorem dX8_longest_12 : decode cX8_longest 12 = .ok (.getfield 10, 3) := dop_180 (dn_w dw83_0 12 rfl) rfl
theorem dX8_longest_15 : decode cX8_longest 15 = .ok (.iload_n 1, 1) := dop_27 (dn_w dw83_0 15 rfl)
theorem dX8_longest_16 : decode cX8_longest 16 = .ok (.invokevirtual 171, 3) := dop_182 (dn_w dw83_1 0 rfl) rfl
theorem dX8_longest_19 : decode cX8_longest 19 = .ok (.goto 4, 3) := dop_167 (dn_w dw83_1 3 rfl) rfl
theorem dX8_longest_22 : decode cX8_longest 22 = .ok (.iconst (-1), 1) := dop_2 (dn_w dw83_1 6 rfl)
theorem dX8_longest_23 : decode cX8_longest 23 = .ok (.ireturn, 1) := dop_172 (dn_w dw83_1 7 rfl)
noncomputable def dt84_1 : List Nat := 27 :: 182 :: 0 :: 177 :: 167 :: 0 :: 4 :: 2 :: 172 :: []
noncomputable def dt84_0 : List Nat := 27 :: 184 :: 0 :: 174 :: 153 :: 0 :: 19 :: 42 :: 180 :: 0 :: 26 :: 42 :: 180 :: 0 :: 10 :: 3 :: dt84_1
theorem dw84_0 : dn cX8_there 0 = dt84_0 := by decide +kernel
theorem dw84_1 : dn cX8_there 16 = dt84_1 := dn_w dw84_0 16 rfl
theorem dX8_there_0 : decode cX8_there 0 = .ok (.iload_n 1, 1) := dop_27 (dn_w dw84_0 0 rfl)
theorem dX8_there_1 : decode cX8_there 1 = .ok (.invokestatic 174, 3) := dop_184 (dn_w dw84_0 1 rfl) rfl
theorem dX8_there_4 : decode cX8_there 4 = .ok (.ifCond .eq 19, 3) := dop_153 (dn_w dw84_0 4 rfl) rfl
theorem dX8_there_7 : decode cX8_there 7 = .ok (.aload_n 0, 1) := dop_42 (dn_w dw84_0 7 rfl)
theorem dX8_there_8 : decode cX8_there 8 = .ok (.getfield 26, 3) := dop_180 (dn_w dw84_0 8 rfl) rfl
theorem dX8_there_11 : decode cX8_there 11 = .ok (.aload_n 0, 1) := dop_42 (dn_w dw84_0 11 rfl)
theorem dX8_there_12 : decode cX8_there 12 = .ok (.getfield 10, 3) := dop_180 (dn_w dw84_0 12 rfl) rfl
theorem dX8_there_15 : decode cX8_there 15 = .ok (.iconst 0, 1) := dop_3 (dn_w dw84_0 15 rfl)
theorem dX8_there_16 : decode cX8_there 16 = .ok (.iload_n 1, 1) := dop_27 (dn_w dw84_1 0 rfl)
theorem dX8_there_17 : decode cX8_there 17 = .ok (.invokevirtual 177, 3) := dop_182 (dn_w dw84_1 1 rfl) rfl
theorem dX8_there_20 : decode cX8_there 20 = .ok (.goto 4, 3) := dop_167 (dn_w dw84_1 4 rfl) rfl
theorem dX8_there_23 : decode cX8_there 23 = .ok (.iconst (-1), 1) := dop_2 (dn_w dw84_1 7 rfl)
theorem dX8_there_24 : decode cX8_there 24 = .ok (.ireturn, 1) := dop_172 (dn_w dw84_1 8 rfl)
noncomputable def dt85_4 : List Nat := 0 :: 177 :: 172 :: []
noncomputable def dt85_3 : List Nat := 4 :: 167 :: 0 :: 17 :: 42 :: 180 :: 0 :: 26 :: 42 :: 180 :: 0 :: 10 :: 21 :: 4 :: 28 :: 182 :: dt85_4
noncomputable def dt85_2 : List Nat := 42 :: 180 :: 0 :: 10 :: 27 :: 28 :: 182 :: 0 :: 181 :: 54 :: 4 :: 29 :: 154 :: 0 :: 8 :: 21 :: dt85_3
noncomputable def dt85_1 : List Nat := 12 :: 29 :: 155 :: 0 :: 8 :: 29 :: 4 :: 164 :: 0 :: 5 :: 2 :: 172 :: 42 :: 180 :: 0 :: 26 :: dt85_2
noncomputable def dt85_0 : List Nat := 27 :: 4 :: 161 :: 0 :: 24 :: 27 :: 6 :: 163 :: 0 :: 19 :: 28 :: 184 :: 0 :: 174 :: 153 :: 0 :: dt85_1
theorem dw85_0 : dn cX8_round 0 = dt85_0 := by decide +kernel
theorem dw85_1 : dn cX8_round 16 = dt85_1 := dn_w dw85_0 16 rfl
theorem dw85_2 : dn cX8_round 32 = dt85_2 := dn_w dw85_1 16 rfl
theorem dw85_3 : dn cX8_round 48 = dt85_3 := dn_w dw85_2 16 rfl
theorem dw85_4 : dn cX8_round 64 = dt85_4 := dn_w dw85_3 16 rfl
theorem dX8_round_0 : decode cX8_round 0 = .ok (.iload_n 1, 1) := dop_27 (dn_w dw85_0 0 rfl)
theorem dX8_round_1 : decode cX8_round 1 = .ok (.iconst 1, 1) := dop_4 (dn_w dw85_0 1 rfl)
theorem dX8_round_2 : decode cX8_round 2 = .ok (.if_icmp .lt 24, 3) := dop_161 (dn_w dw85_0 2 rfl) rfl
theorem dX8_round_5 : decode cX8_round 5 = .ok (.iload_n 1, 1) := dop_27 (dn_w dw85_0 5 rfl)
theorem dX8_round_6 : decode cX8_round 6 = .ok (.iconst 3, 1) := dop_6 (dn_w dw85_0 6 rfl)
theorem dX8_round_7 : decode cX8_round 7 = .ok (.if_icmp .gt 19, 3) := dop_163 (dn_w dw85_0 7 rfl) rfl
theorem dX8_round_10 : decode cX8_round 10 = .ok (.iload_n 2, 1) := dop_28 (dn_w dw85_0 10 rfl)
theorem dX8_round_11 : decode cX8_round 11 = .ok (.invokestatic 174, 3) := dop_184 (dn_w dw85_0 11 rfl) rfl
theorem dX8_round_14 : decode cX8_round 14 = .ok (.ifCond .eq 12, 3) := dop_153 (dn_w dw85_0 14 rfl) rfl
theorem dX8_round_17 : decode cX8_round 17 = .ok (.iload_n 3, 1) := dop_29 (dn_w dw85_1 1 rfl)
theorem dX8_round_18 : decode cX8_round 18 = .ok (.ifCond .lt 8, 3) := dop_155 (dn_w dw85_1 2 rfl) rfl
theorem dX8_round_21 : decode cX8_round 21 = .ok (.iload_n 3, 1) := dop_29 (dn_w dw85_1 5 rfl)
theorem dX8_round_22 : decode cX8_round 22 = .ok (.iconst 1, 1) := dop_4 (dn_w dw85_1 6 rfl)
theorem dX8_round_23 : decode cX8_round 23 = .ok (.if_icmp .le 5, 3) := dop_164 (dn_w dw85_1 7 rfl) rfl
theorem dX8_round_26 : decode cX8_round 26 = .ok (.iconst (-1), 1) := dop_2 (dn_w dw85_1 10 rfl)
theorem dX8_round_27 : decode cX8_round 27 = .ok (.ireturn, 1) := dop_172 (dn_w dw85_1 11 rfl)
theorem dX8_round_28 : decode cX8_round 28 = .ok (.aload_n 0, 1) := dop_42 (dn_w dw85_1 12 rfl)
theorem dX8_round_29 : decode cX8_round 29 = .ok (.getfield 26, 3) := dop_180 (dn_w dw85_1 13 rfl) rfl
theorem dX8_round_32 : decode cX8_round 32 = .ok (.aload_n 0, 1) := dop_42 (dn_w dw85_2 0 rfl)
theorem dX8_round_33 : decode cX8_round 33 = .ok (.getfield 10, 3) := dop_180 (dn_w dw85_2 1 rfl) rfl
theorem dX8_round_36 : decode cX8_round 36 = .ok (.iload_n 1, 1) := dop_27 (dn_w dw85_2 4 rfl)
theorem dX8_round_37 : decode cX8_round 37 = .ok (.iload_n 2, 1) := dop_28 (dn_w dw85_2 5 rfl)
theorem dX8_round_38 : decode cX8_round 38 = .ok (.invokevirtual 181, 3) := dop_182 (dn_w dw85_2 6 rfl) rfl
theorem dX8_round_41 : decode cX8_round 41 = .ok (.istore 4, 2) := dop_54 (dn_w dw85_2 9 rfl)
theorem dX8_round_43 : decode cX8_round 43 = .ok (.iload_n 3, 1) := dop_29 (dn_w dw85_2 11 rfl)
theorem dX8_round_44 : decode cX8_round 44 = .ok (.ifCond .ne 8, 3) := dop_154 (dn_w dw85_2 12 rfl) rfl
theorem dX8_round_47 : decode cX8_round 47 = .ok (.iload 4, 2) := dop_21 (dn_w dw85_2 15 rfl)
theorem dX8_round_49 : decode cX8_round 49 = .ok (.goto 17, 3) := dop_167 (dn_w dw85_3 1 rfl) rfl
theorem dX8_round_52 : decode cX8_round 52 = .ok (.aload_n 0, 1) := dop_42 (dn_w dw85_3 4 rfl)
theorem dX8_round_53 : decode cX8_round 53 = .ok (.getfield 26, 3) := dop_180 (dn_w dw85_3 5 rfl) rfl
theorem dX8_round_56 : decode cX8_round 56 = .ok (.aload_n 0, 1) := dop_42 (dn_w dw85_3 8 rfl)
theorem dX8_round_57 : decode cX8_round 57 = .ok (.getfield 10, 3) := dop_180 (dn_w dw85_3 9 rfl) rfl
theorem dX8_round_60 : decode cX8_round 60 = .ok (.iload 4, 2) := dop_21 (dn_w dw85_3 12 rfl)
theorem dX8_round_62 : decode cX8_round 62 = .ok (.iload_n 2, 1) := dop_28 (dn_w dw85_3 14 rfl)
theorem dX8_round_63 : decode cX8_round 63 = .ok (.invokevirtual 177, 3) := dop_182 (dn_w dw85_3 15 rfl) rfl
theorem dX8_round_66 : decode cX8_round 66 = .ok (.ireturn, 1) := dop_172 (dn_w dw85_4 2 rfl)
noncomputable def dt86_1 : List Nat := 180 :: 0 :: 10 :: 27 :: 182 :: 0 :: 184 :: 167 :: 0 :: 4 :: 2 :: 172 :: []
noncomputable def dt86_0 : List Nat := 42 :: 180 :: 0 :: 10 :: 27 :: 182 :: 0 :: 102 :: 153 :: 0 :: 18 :: 42 :: 180 :: 0 :: 26 :: 42 :: dt86_1
theorem dw86_0 : dn cX8_good 0 = dt86_0 := by decide +kernel
theorem dw86_1 : dn cX8_good 16 = dt86_1 := dn_w dw86_0 16 rfl
theorem dX8_good_0 : decode cX8_good 0 = .ok (.aload_n 0, 1) := dop_42 (dn_w dw86_0 0 rfl)
theorem dX8_good_1 : decode cX8_good 1 = .ok (.getfield 10, 3) := dop_180 (dn_w dw86_0 1 rfl) rfl
theorem dX8_good_4 : decode cX8_good 4 = .ok (.iload_n 1, 1) := dop_27 (dn_w dw86_0 4 rfl)
theorem dX8_good_5 : decode cX8_good 5 = .ok (.invokevirtual 102, 3) := dop_182 (dn_w dw86_0 5 rfl) rfl
theorem dX8_good_8 : decode cX8_good 8 = .ok (.ifCond .eq 18, 3) := dop_153 (dn_w dw86_0 8 rfl) rfl
theorem dX8_good_11 : decode cX8_good 11 = .ok (.aload_n 0, 1) := dop_42 (dn_w dw86_0 11 rfl)
theorem dX8_good_12 : decode cX8_good 12 = .ok (.getfield 26, 3) := dop_180 (dn_w dw86_0 12 rfl) rfl
theorem dX8_good_15 : decode cX8_good 15 = .ok (.aload_n 0, 1) := dop_42 (dn_w dw86_0 15 rfl)
theorem dX8_good_16 : decode cX8_good 16 = .ok (.getfield 10, 3) := dop_180 (dn_w dw86_1 0 rfl) rfl
theorem dX8_good_19 : decode cX8_good 19 = .ok (.iload_n 1, 1) := dop_27 (dn_w dw86_1 3 rfl)
theorem dX8_good_20 : decode cX8_good 20 = .ok (.invokevirtual 184, 3) := dop_182 (dn_w dw86_1 4 rfl) rfl
theorem dX8_good_23 : decode cX8_good 23 = .ok (.goto 4, 3) := dop_167 (dn_w dw86_1 7 rfl) rfl
theorem dX8_good_26 : decode cX8_good 26 = .ok (.iconst (-1), 1) := dop_2 (dn_w dw86_1 10 rfl)
theorem dX8_good_27 : decode cX8_good 27 = .ok (.ireturn, 1) := dop_172 (dn_w dw86_1 11 rfl)
noncomputable def dt87_3 : List Nat := 28 :: 120 :: 128 :: 29 :: 182 :: 0 :: 188 :: 172 :: []
noncomputable def dt87_2 : List Nat := 0 :: 5 :: 2 :: 172 :: 42 :: 180 :: 0 :: 26 :: 42 :: 180 :: 0 :: 10 :: 4 :: 27 :: 120 :: 4 :: dt87_3
noncomputable def dt87_1 : List Nat := 182 :: 0 :: 102 :: 153 :: 0 :: 15 :: 27 :: 28 :: 159 :: 0 :: 10 :: 29 :: 184 :: 0 :: 174 :: 154 :: dt87_2
noncomputable def dt87_0 : List Nat := 42 :: 180 :: 0 :: 10 :: 27 :: 182 :: 0 :: 102 :: 153 :: 0 :: 26 :: 42 :: 180 :: 0 :: 10 :: 28 :: dt87_1
theorem dw87_0 : dn cX8_meet 0 = dt87_0 := by decide +kernel
theorem dw87_1 : dn cX8_meet 16 = dt87_1 := dn_w dw87_0 16 rfl
theorem dw87_2 : dn cX8_meet 32 = dt87_2 := dn_w dw87_1 16 rfl
theorem dw87_3 : dn cX8_meet 48 = dt87_3 := dn_w dw87_2 16 rfl
theorem dX8_meet_0 : decode cX8_meet 0 = .ok (.aload_n 0, 1) := dop_42 (dn_w dw87_0 0 rfl)
theorem dX8_meet_1 : decode cX8_meet 1 = .ok (.getfield 10, 3) := dop_180 (dn_w dw87_0 1 rfl) rfl
theorem dX8_meet_4 : decode cX8_meet 4 = .ok (.iload_n 1, 1) := dop_27 (dn_w dw87_0 4 rfl)
theorem dX8_meet_5 : decode cX8_meet 5 = .ok (.invokevirtual 102, 3) := dop_182 (dn_w dw87_0 5 rfl) rfl
theorem dX8_meet_8 : decode cX8_meet 8 = .ok (.ifCond .eq 26, 3) := dop_153 (dn_w dw87_0 8 rfl) rfl
theorem dX8_meet_11 : decode cX8_meet 11 = .ok (.aload_n 0, 1) := dop_42 (dn_w dw87_0 11 rfl)
theorem dX8_meet_12 : decode cX8_meet 12 = .ok (.getfield 10, 3) := dop_180 (dn_w dw87_0 12 rfl) rfl
theorem dX8_meet_15 : decode cX8_meet 15 = .ok (.iload_n 2, 1) := dop_28 (dn_w dw87_0 15 rfl)
theorem dX8_meet_16 : decode cX8_meet 16 = .ok (.invokevirtual 102, 3) := dop_182 (dn_w dw87_1 0 rfl) rfl
theorem dX8_meet_19 : decode cX8_meet 19 = .ok (.ifCond .eq 15, 3) := dop_153 (dn_w dw87_1 3 rfl) rfl
theorem dX8_meet_22 : decode cX8_meet 22 = .ok (.iload_n 1, 1) := dop_27 (dn_w dw87_1 6 rfl)
theorem dX8_meet_23 : decode cX8_meet 23 = .ok (.iload_n 2, 1) := dop_28 (dn_w dw87_1 7 rfl)
theorem dX8_meet_24 : decode cX8_meet 24 = .ok (.if_icmp .eq 10, 3) := dop_159 (dn_w dw87_1 8 rfl) rfl
theorem dX8_meet_27 : decode cX8_meet 27 = .ok (.iload_n 3, 1) := dop_29 (dn_w dw87_1 11 rfl)
theorem dX8_meet_28 : decode cX8_meet 28 = .ok (.invokestatic 174, 3) := dop_184 (dn_w dw87_1 12 rfl) rfl
theorem dX8_meet_31 : decode cX8_meet 31 = .ok (.ifCond .ne 5, 3) := dop_154 (dn_w dw87_1 15 rfl) rfl
theorem dX8_meet_34 : decode cX8_meet 34 = .ok (.iconst (-1), 1) := dop_2 (dn_w dw87_2 2 rfl)
theorem dX8_meet_35 : decode cX8_meet 35 = .ok (.ireturn, 1) := dop_172 (dn_w dw87_2 3 rfl)
theorem dX8_meet_36 : decode cX8_meet 36 = .ok (.aload_n 0, 1) := dop_42 (dn_w dw87_2 4 rfl)
theorem dX8_meet_37 : decode cX8_meet 37 = .ok (.getfield 26, 3) := dop_180 (dn_w dw87_2 5 rfl) rfl
theorem dX8_meet_40 : decode cX8_meet 40 = .ok (.aload_n 0, 1) := dop_42 (dn_w dw87_2 8 rfl)
theorem dX8_meet_41 : decode cX8_meet 41 = .ok (.getfield 10, 3) := dop_180 (dn_w dw87_2 9 rfl) rfl
theorem dX8_meet_44 : decode cX8_meet 44 = .ok (.iconst 1, 1) := dop_4 (dn_w dw87_2 12 rfl)
theorem dX8_meet_45 : decode cX8_meet 45 = .ok (.iload_n 1, 1) := dop_27 (dn_w dw87_2 13 rfl)
theorem dX8_meet_46 : decode cX8_meet 46 = .ok (.ishl, 1) := dop_120 (dn_w dw87_2 14 rfl)
theorem dX8_meet_47 : decode cX8_meet 47 = .ok (.iconst 1, 1) := dop_4 (dn_w dw87_2 15 rfl)
theorem dX8_meet_48 : decode cX8_meet 48 = .ok (.iload_n 2, 1) := dop_28 (dn_w dw87_3 0 rfl)
theorem dX8_meet_49 : decode cX8_meet 49 = .ok (.ishl, 1) := dop_120 (dn_w dw87_3 1 rfl)
theorem dX8_meet_50 : decode cX8_meet 50 = .ok (.ior, 1) := dop_128 (dn_w dw87_3 2 rfl)
theorem dX8_meet_51 : decode cX8_meet 51 = .ok (.iload_n 3, 1) := dop_29 (dn_w dw87_3 3 rfl)
theorem dX8_meet_52 : decode cX8_meet 52 = .ok (.invokevirtual 188, 3) := dop_182 (dn_w dw87_3 4 rfl) rfl
theorem dX8_meet_55 : decode cX8_meet 55 = .ok (.ireturn, 1) := dop_172 (dn_w dw87_3 7 rfl)
noncomputable def dt88_1 : List Nat := 42 :: 180 :: 0 :: 10 :: 27 :: 182 :: 0 :: 191 :: 167 :: 0 :: 4 :: 2 :: 172 :: []
noncomputable def dt88_0 : List Nat := 27 :: 4 :: 161 :: 0 :: 25 :: 27 :: 184 :: 0 :: 174 :: 153 :: 0 :: 18 :: 42 :: 180 :: 0 :: 26 :: dt88_1
theorem dw88_0 : dn cX8_least 0 = dt88_0 := by decide +kernel
theorem dw88_1 : dn cX8_least 16 = dt88_1 := dn_w dw88_0 16 rfl
theorem dX8_least_0 : decode cX8_least 0 = .ok (.iload_n 1, 1) := dop_27 (dn_w dw88_0 0 rfl)
theorem dX8_least_1 : decode cX8_least 1 = .ok (.iconst 1, 1) := dop_4 (dn_w dw88_0 1 rfl)
theorem dX8_least_2 : decode cX8_least 2 = .ok (.if_icmp .lt 25, 3) := dop_161 (dn_w dw88_0 2 rfl) rfl
theorem dX8_least_5 : decode cX8_least 5 = .ok (.iload_n 1, 1) := dop_27 (dn_w dw88_0 5 rfl)
theorem dX8_least_6 : decode cX8_least 6 = .ok (.invokestatic 174, 3) := dop_184 (dn_w dw88_0 6 rfl) rfl
theorem dX8_least_9 : decode cX8_least 9 = .ok (.ifCond .eq 18, 3) := dop_153 (dn_w dw88_0 9 rfl) rfl
theorem dX8_least_12 : decode cX8_least 12 = .ok (.aload_n 0, 1) := dop_42 (dn_w dw88_0 12 rfl)
theorem dX8_least_13 : decode cX8_least 13 = .ok (.getfield 26, 3) := dop_180 (dn_w dw88_0 13 rfl) rfl
theorem dX8_least_16 : decode cX8_least 16 = .ok (.aload_n 0, 1) := dop_42 (dn_w dw88_1 0 rfl)
theorem dX8_least_17 : decode cX8_least 17 = .ok (.getfield 10, 3) := dop_180 (dn_w dw88_1 1 rfl) rfl
theorem dX8_least_20 : decode cX8_least 20 = .ok (.iload_n 1, 1) := dop_27 (dn_w dw88_1 4 rfl)
theorem dX8_least_21 : decode cX8_least 21 = .ok (.invokevirtual 191, 3) := dop_182 (dn_w dw88_1 5 rfl) rfl
theorem dX8_least_24 : decode cX8_least 24 = .ok (.goto 4, 3) := dop_167 (dn_w dw88_1 8 rfl) rfl
theorem dX8_least_27 : decode cX8_least 27 = .ok (.iconst (-1), 1) := dop_2 (dn_w dw88_1 11 rfl)
theorem dX8_least_28 : decode cX8_least 28 = .ok (.ireturn, 1) := dop_172 (dn_w dw88_1 12 rfl)
noncomputable def dt89_1 : List Nat := 182 :: 0 :: 194 :: 167 :: 0 :: 4 :: 2 :: 172 :: []
noncomputable def dt89_0 : List Nat := 42 :: 180 :: 0 :: 10 :: 27 :: 182 :: 0 :: 102 :: 153 :: 0 :: 14 :: 42 :: 180 :: 0 :: 10 :: 27 :: dt89_1
theorem dw89_0 : dn cX8_fits 0 = dt89_0 := by decide +kernel
theorem dw89_1 : dn cX8_fits 16 = dt89_1 := dn_w dw89_0 16 rfl
theorem dX8_fits_0 : decode cX8_fits 0 = .ok (.aload_n 0, 1) := dop_42 (dn_w dw89_0 0 rfl)
theorem dX8_fits_1 : decode cX8_fits 1 = .ok (.getfield 10, 3) := dop_180 (dn_w dw89_0 1 rfl) rfl
theorem dX8_fits_4 : decode cX8_fits 4 = .ok (.iload_n 1, 1) := dop_27 (dn_w dw89_0 4 rfl)
theorem dX8_fits_5 : decode cX8_fits 5 = .ok (.invokevirtual 102, 3) := dop_182 (dn_w dw89_0 5 rfl) rfl
theorem dX8_fits_8 : decode cX8_fits 8 = .ok (.ifCond .eq 14, 3) := dop_153 (dn_w dw89_0 8 rfl) rfl
theorem dX8_fits_11 : decode cX8_fits 11 = .ok (.aload_n 0, 1) := dop_42 (dn_w dw89_0 11 rfl)
theorem dX8_fits_12 : decode cX8_fits 12 = .ok (.getfield 10, 3) := dop_180 (dn_w dw89_0 12 rfl) rfl
theorem dX8_fits_15 : decode cX8_fits 15 = .ok (.iload_n 1, 1) := dop_27 (dn_w dw89_0 15 rfl)
theorem dX8_fits_16 : decode cX8_fits 16 = .ok (.invokevirtual 194, 3) := dop_182 (dn_w dw89_1 0 rfl) rfl
theorem dX8_fits_19 : decode cX8_fits 19 = .ok (.goto 4, 3) := dop_167 (dn_w dw89_1 3 rfl) rfl
theorem dX8_fits_22 : decode cX8_fits 22 = .ok (.iconst (-1), 1) := dop_2 (dn_w dw89_1 6 rfl)
theorem dX8_fits_23 : decode cX8_fits 23 = .ok (.ireturn, 1) := dop_172 (dn_w dw89_1 7 rfl)
noncomputable def dt90_1 : List Nat := 28 :: 172 :: []
noncomputable def dt90_0 : List Nat := 42 :: 180 :: 0 :: 10 :: 180 :: 0 :: 197 :: 61 :: 42 :: 180 :: 0 :: 10 :: 27 :: 181 :: 0 :: 197 :: dt90_1
theorem dw90_0 : dn cX8_seed 0 = dt90_0 := by decide +kernel
theorem dw90_1 : dn cX8_seed 16 = dt90_1 := dn_w dw90_0 16 rfl
theorem dX8_seed_0 : decode cX8_seed 0 = .ok (.aload_n 0, 1) := dop_42 (dn_w dw90_0 0 rfl)
theorem dX8_seed_1 : decode cX8_seed 1 = .ok (.getfield 10, 3) := dop_180 (dn_w dw90_0 1 rfl) rfl
theorem dX8_seed_4 : decode cX8_seed 4 = .ok (.getfield 197, 3) := dop_180 (dn_w dw90_0 4 rfl) rfl
theorem dX8_seed_7 : decode cX8_seed 7 = .ok (.istore_n 2, 1) := dop_61 (dn_w dw90_0 7 rfl)
theorem dX8_seed_8 : decode cX8_seed 8 = .ok (.aload_n 0, 1) := dop_42 (dn_w dw90_0 8 rfl)
theorem dX8_seed_9 : decode cX8_seed 9 = .ok (.getfield 10, 3) := dop_180 (dn_w dw90_0 9 rfl) rfl
theorem dX8_seed_12 : decode cX8_seed 12 = .ok (.iload_n 1, 1) := dop_27 (dn_w dw90_0 12 rfl)
theorem dX8_seed_13 : decode cX8_seed 13 = .ok (.putfield 197, 3) := dop_181 (dn_w dw90_0 13 rfl) rfl
theorem dX8_seed_16 : decode cX8_seed 16 = .ok (.iload_n 2, 1) := dop_28 (dn_w dw90_1 0 rfl)
theorem dX8_seed_17 : decode cX8_seed 17 = .ok (.ireturn, 1) := dop_172 (dn_w dw90_1 1 rfl)
noncomputable def dt91_2 : List Nat := 0 :: 10 :: 182 :: 0 :: 200 :: 182 :: 0 :: 203 :: 172 :: []
noncomputable def dt91_1 : List Nat := 10 :: 182 :: 0 :: 143 :: 153 :: 0 :: 6 :: 16 :: 252 :: 172 :: 42 :: 180 :: 0 :: 10 :: 42 :: 180 :: dt91_2
noncomputable def dt91_0 : List Nat := 42 :: 180 :: 0 :: 10 :: 180 :: 0 :: 87 :: 154 :: 0 :: 6 :: 16 :: 253 :: 172 :: 42 :: 180 :: 0 :: dt91_1
theorem dw91_0 : dn cX8_draw 0 = dt91_0 := by decide +kernel
theorem dw91_1 : dn cX8_draw 16 = dt91_1 := dn_w dw91_0 16 rfl
theorem dw91_2 : dn cX8_draw 32 = dt91_2 := dn_w dw91_1 16 rfl
theorem dX8_draw_0 : decode cX8_draw 0 = .ok (.aload_n 0, 1) := dop_42 (dn_w dw91_0 0 rfl)
theorem dX8_draw_1 : decode cX8_draw 1 = .ok (.getfield 10, 3) := dop_180 (dn_w dw91_0 1 rfl) rfl
theorem dX8_draw_4 : decode cX8_draw 4 = .ok (.getfield 87, 3) := dop_180 (dn_w dw91_0 4 rfl) rfl
theorem dX8_draw_7 : decode cX8_draw 7 = .ok (.ifCond .ne 6, 3) := dop_154 (dn_w dw91_0 7 rfl) rfl
theorem dX8_draw_10 : decode cX8_draw 10 = .ok (.bipush (-3), 2) := dop_16 (dn_w dw91_0 10 rfl) rfl
theorem dX8_draw_12 : decode cX8_draw 12 = .ok (.ireturn, 1) := dop_172 (dn_w dw91_0 12 rfl)
theorem dX8_draw_13 : decode cX8_draw 13 = .ok (.aload_n 0, 1) := dop_42 (dn_w dw91_0 13 rfl)
theorem dX8_draw_14 : decode cX8_draw 14 = .ok (.getfield 10, 3) := dop_180 (dn_w dw91_0 14 rfl) rfl
theorem dX8_draw_17 : decode cX8_draw 17 = .ok (.invokevirtual 143, 3) := dop_182 (dn_w dw91_1 1 rfl) rfl
theorem dX8_draw_20 : decode cX8_draw 20 = .ok (.ifCond .eq 6, 3) := dop_153 (dn_w dw91_1 4 rfl) rfl
theorem dX8_draw_23 : decode cX8_draw 23 = .ok (.bipush (-4), 2) := dop_16 (dn_w dw91_1 7 rfl) rfl
theorem dX8_draw_25 : decode cX8_draw 25 = .ok (.ireturn, 1) := dop_172 (dn_w dw91_1 9 rfl)
theorem dX8_draw_26 : decode cX8_draw 26 = .ok (.aload_n 0, 1) := dop_42 (dn_w dw91_1 10 rfl)
theorem dX8_draw_27 : decode cX8_draw 27 = .ok (.getfield 10, 3) := dop_180 (dn_w dw91_1 11 rfl) rfl
theorem dX8_draw_30 : decode cX8_draw 30 = .ok (.aload_n 0, 1) := dop_42 (dn_w dw91_1 14 rfl)
theorem dX8_draw_31 : decode cX8_draw 31 = .ok (.getfield 10, 3) := dop_180 (dn_w dw91_1 15 rfl) rfl
theorem dX8_draw_34 : decode cX8_draw 34 = .ok (.invokevirtual 200, 3) := dop_182 (dn_w dw91_2 2 rfl) rfl
theorem dX8_draw_37 : decode cX8_draw 37 = .ok (.invokevirtual 203, 3) := dop_182 (dn_w dw91_2 5 rfl) rfl
theorem dX8_draw_40 : decode cX8_draw 40 = .ok (.ireturn, 1) := dop_172 (dn_w dw91_2 8 rfl)
noncomputable def dt92_2 : List Nat := 0 :: 40 :: 180 :: 0 :: 84 :: 172 :: []
noncomputable def dt92_1 : List Nat := 0 :: 26 :: 42 :: 180 :: 0 :: 10 :: 42 :: 180 :: 0 :: 40 :: 27 :: 182 :: 0 :: 206 :: 42 :: 180 :: dt92_2
noncomputable def dt92_0 : List Nat := 27 :: 4 :: 161 :: 0 :: 10 :: 27 :: 184 :: 0 :: 174 :: 154 :: 0 :: 5 :: 2 :: 172 :: 42 :: 180 :: dt92_1
theorem dw92_0 : dn cX8_prove 0 = dt92_0 := by decide +kernel
theorem dw92_1 : dn cX8_prove 16 = dt92_1 := dn_w dw92_0 16 rfl
theorem dw92_2 : dn cX8_prove 32 = dt92_2 := dn_w dw92_1 16 rfl
theorem dX8_prove_0 : decode cX8_prove 0 = .ok (.iload_n 1, 1) := dop_27 (dn_w dw92_0 0 rfl)
theorem dX8_prove_1 : decode cX8_prove 1 = .ok (.iconst 1, 1) := dop_4 (dn_w dw92_0 1 rfl)
theorem dX8_prove_2 : decode cX8_prove 2 = .ok (.if_icmp .lt 10, 3) := dop_161 (dn_w dw92_0 2 rfl) rfl
theorem dX8_prove_5 : decode cX8_prove 5 = .ok (.iload_n 1, 1) := dop_27 (dn_w dw92_0 5 rfl)
theorem dX8_prove_6 : decode cX8_prove 6 = .ok (.invokestatic 174, 3) := dop_184 (dn_w dw92_0 6 rfl) rfl
theorem dX8_prove_9 : decode cX8_prove 9 = .ok (.ifCond .ne 5, 3) := dop_154 (dn_w dw92_0 9 rfl) rfl
theorem dX8_prove_12 : decode cX8_prove 12 = .ok (.iconst (-1), 1) := dop_2 (dn_w dw92_0 12 rfl)
theorem dX8_prove_13 : decode cX8_prove 13 = .ok (.ireturn, 1) := dop_172 (dn_w dw92_0 13 rfl)
theorem dX8_prove_14 : decode cX8_prove 14 = .ok (.aload_n 0, 1) := dop_42 (dn_w dw92_0 14 rfl)
theorem dX8_prove_15 : decode cX8_prove 15 = .ok (.getfield 26, 3) := dop_180 (dn_w dw92_0 15 rfl) rfl
theorem dX8_prove_18 : decode cX8_prove 18 = .ok (.aload_n 0, 1) := dop_42 (dn_w dw92_1 2 rfl)
theorem dX8_prove_19 : decode cX8_prove 19 = .ok (.getfield 10, 3) := dop_180 (dn_w dw92_1 3 rfl) rfl
theorem dX8_prove_22 : decode cX8_prove 22 = .ok (.aload_n 0, 1) := dop_42 (dn_w dw92_1 6 rfl)
theorem dX8_prove_23 : decode cX8_prove 23 = .ok (.getfield 40, 3) := dop_180 (dn_w dw92_1 7 rfl) rfl
theorem dX8_prove_26 : decode cX8_prove 26 = .ok (.iload_n 1, 1) := dop_27 (dn_w dw92_1 10 rfl)
theorem dX8_prove_27 : decode cX8_prove 27 = .ok (.invokevirtual 206, 3) := dop_182 (dn_w dw92_1 11 rfl) rfl
theorem dX8_prove_30 : decode cX8_prove 30 = .ok (.aload_n 0, 1) := dop_42 (dn_w dw92_1 14 rfl)
theorem dX8_prove_31 : decode cX8_prove 31 = .ok (.getfield 40, 3) := dop_180 (dn_w dw92_1 15 rfl) rfl
theorem dX8_prove_34 : decode cX8_prove 34 = .ok (.getfield 84, 3) := dop_180 (dn_w dw92_2 2 rfl) rfl
theorem dX8_prove_37 : decode cX8_prove 37 = .ok (.ireturn, 1) := dop_172 (dn_w dw92_2 5 rfl)
noncomputable def dt93_1 : List Nat := 167 :: 0 :: 12 :: 42 :: 180 :: 0 :: 40 :: 180 :: 0 :: 213 :: 29 :: 46 :: 172 :: []
noncomputable def dt93_0 : List Nat := 42 :: 180 :: 0 :: 40 :: 27 :: 28 :: 182 :: 0 :: 210 :: 62 :: 29 :: 156 :: 0 :: 8 :: 16 :: 247 :: dt93_1
theorem dw93_0 : dn cX8_row 0 = dt93_0 := by decide +kernel
theorem dw93_1 : dn cX8_row 16 = dt93_1 := dn_w dw93_0 16 rfl
theorem dX8_row_0 : decode cX8_row 0 = .ok (.aload_n 0, 1) := dop_42 (dn_w dw93_0 0 rfl)
theorem dX8_row_1 : decode cX8_row 1 = .ok (.getfield 40, 3) := dop_180 (dn_w dw93_0 1 rfl) rfl
theorem dX8_row_4 : decode cX8_row 4 = .ok (.iload_n 1, 1) := dop_27 (dn_w dw93_0 4 rfl)
theorem dX8_row_5 : decode cX8_row 5 = .ok (.iload_n 2, 1) := dop_28 (dn_w dw93_0 5 rfl)
theorem dX8_row_6 : decode cX8_row 6 = .ok (.invokevirtual 210, 3) := dop_182 (dn_w dw93_0 6 rfl) rfl
theorem dX8_row_9 : decode cX8_row 9 = .ok (.istore_n 3, 1) := dop_62 (dn_w dw93_0 9 rfl)
theorem dX8_row_10 : decode cX8_row 10 = .ok (.iload_n 3, 1) := dop_29 (dn_w dw93_0 10 rfl)
theorem dX8_row_11 : decode cX8_row 11 = .ok (.ifCond .ge 8, 3) := dop_156 (dn_w dw93_0 11 rfl) rfl
theorem dX8_row_14 : decode cX8_row 14 = .ok (.bipush (-9), 2) := dop_16 (dn_w dw93_0 14 rfl) rfl
theorem dX8_row_16 : decode cX8_row 16 = .ok (.goto 12, 3) := dop_167 (dn_w dw93_1 0 rfl) rfl
theorem dX8_row_19 : decode cX8_row 19 = .ok (.aload_n 0, 1) := dop_42 (dn_w dw93_1 3 rfl)
theorem dX8_row_20 : decode cX8_row 20 = .ok (.getfield 40, 3) := dop_180 (dn_w dw93_1 4 rfl) rfl
theorem dX8_row_23 : decode cX8_row 23 = .ok (.getfield 213, 3) := dop_180 (dn_w dw93_1 7 rfl) rfl
theorem dX8_row_26 : decode cX8_row 26 = .ok (.iload_n 3, 1) := dop_29 (dn_w dw93_1 10 rfl)
theorem dX8_row_27 : decode cX8_row 27 = .ok (.iaload, 1) := dop_46 (dn_w dw93_1 11 rfl)
theorem dX8_row_28 : decode cX8_row 28 = .ok (.ireturn, 1) := dop_172 (dn_w dw93_1 12 rfl)
noncomputable def dt94_2 : List Nat := 180 :: 0 :: 40 :: 180 :: 0 :: 213 :: 21 :: 4 :: 29 :: 79 :: 21 :: 5 :: 172 :: []
noncomputable def dt94_1 : List Nat := 16 :: 247 :: 172 :: 42 :: 180 :: 0 :: 40 :: 180 :: 0 :: 213 :: 21 :: 4 :: 46 :: 54 :: 5 :: 42 :: dt94_2
noncomputable def dt94_0 : List Nat := 42 :: 180 :: 0 :: 40 :: 27 :: 28 :: 182 :: 0 :: 210 :: 54 :: 4 :: 21 :: 4 :: 156 :: 0 :: 6 :: dt94_1
theorem dw94_0 : dn cX8_alterRow 0 = dt94_0 := by decide +kernel
theorem dw94_1 : dn cX8_alterRow 16 = dt94_1 := dn_w dw94_0 16 rfl
theorem dw94_2 : dn cX8_alterRow 32 = dt94_2 := dn_w dw94_1 16 rfl
theorem dX8_alterRow_0 : decode cX8_alterRow 0 = .ok (.aload_n 0, 1) := dop_42 (dn_w dw94_0 0 rfl)
theorem dX8_alterRow_1 : decode cX8_alterRow 1 = .ok (.getfield 40, 3) := dop_180 (dn_w dw94_0 1 rfl) rfl
theorem dX8_alterRow_4 : decode cX8_alterRow 4 = .ok (.iload_n 1, 1) := dop_27 (dn_w dw94_0 4 rfl)
theorem dX8_alterRow_5 : decode cX8_alterRow 5 = .ok (.iload_n 2, 1) := dop_28 (dn_w dw94_0 5 rfl)
theorem dX8_alterRow_6 : decode cX8_alterRow 6 = .ok (.invokevirtual 210, 3) := dop_182 (dn_w dw94_0 6 rfl) rfl
theorem dX8_alterRow_9 : decode cX8_alterRow 9 = .ok (.istore 4, 2) := dop_54 (dn_w dw94_0 9 rfl)
theorem dX8_alterRow_11 : decode cX8_alterRow 11 = .ok (.iload 4, 2) := dop_21 (dn_w dw94_0 11 rfl)
theorem dX8_alterRow_13 : decode cX8_alterRow 13 = .ok (.ifCond .ge 6, 3) := dop_156 (dn_w dw94_0 13 rfl) rfl
theorem dX8_alterRow_16 : decode cX8_alterRow 16 = .ok (.bipush (-9), 2) := dop_16 (dn_w dw94_1 0 rfl) rfl
theorem dX8_alterRow_18 : decode cX8_alterRow 18 = .ok (.ireturn, 1) := dop_172 (dn_w dw94_1 2 rfl)
theorem dX8_alterRow_19 : decode cX8_alterRow 19 = .ok (.aload_n 0, 1) := dop_42 (dn_w dw94_1 3 rfl)
theorem dX8_alterRow_20 : decode cX8_alterRow 20 = .ok (.getfield 40, 3) := dop_180 (dn_w dw94_1 4 rfl) rfl
theorem dX8_alterRow_23 : decode cX8_alterRow 23 = .ok (.getfield 213, 3) := dop_180 (dn_w dw94_1 7 rfl) rfl
theorem dX8_alterRow_26 : decode cX8_alterRow 26 = .ok (.iload 4, 2) := dop_21 (dn_w dw94_1 10 rfl)
theorem dX8_alterRow_28 : decode cX8_alterRow 28 = .ok (.iaload, 1) := dop_46 (dn_w dw94_1 12 rfl)
theorem dX8_alterRow_29 : decode cX8_alterRow 29 = .ok (.istore 5, 2) := dop_54 (dn_w dw94_1 13 rfl)
theorem dX8_alterRow_31 : decode cX8_alterRow 31 = .ok (.aload_n 0, 1) := dop_42 (dn_w dw94_1 15 rfl)
theorem dX8_alterRow_32 : decode cX8_alterRow 32 = .ok (.getfield 40, 3) := dop_180 (dn_w dw94_2 0 rfl) rfl
theorem dX8_alterRow_35 : decode cX8_alterRow 35 = .ok (.getfield 213, 3) := dop_180 (dn_w dw94_2 3 rfl) rfl
theorem dX8_alterRow_38 : decode cX8_alterRow 38 = .ok (.iload 4, 2) := dop_21 (dn_w dw94_2 6 rfl)
theorem dX8_alterRow_40 : decode cX8_alterRow 40 = .ok (.iload_n 3, 1) := dop_29 (dn_w dw94_2 8 rfl)
theorem dX8_alterRow_41 : decode cX8_alterRow 41 = .ok (.iastore, 1) := dop_79 (dn_w dw94_2 9 rfl)
theorem dX8_alterRow_42 : decode cX8_alterRow 42 = .ok (.iload 5, 2) := dop_21 (dn_w dw94_2 10 rfl)
theorem dX8_alterRow_44 : decode cX8_alterRow 44 = .ok (.ireturn, 1) := dop_172 (dn_w dw94_2 12 rfl)
noncomputable def dt95_1 : List Nat := 96 :: 172 :: []
noncomputable def dt95_0 : List Nat := 42 :: 180 :: 0 :: 26 :: 42 :: 180 :: 0 :: 10 :: 42 :: 180 :: 0 :: 40 :: 182 :: 0 :: 216 :: 4 :: dt95_1
theorem dw95_0 : dn cX8_judge 0 = dt95_0 := by decide +kernel
theorem dw95_1 : dn cX8_judge 16 = dt95_1 := dn_w dw95_0 16 rfl
theorem dX8_judge_0 : decode cX8_judge 0 = .ok (.aload_n 0, 1) := dop_42 (dn_w dw95_0 0 rfl)
theorem dX8_judge_1 : decode cX8_judge 1 = .ok (.getfield 26, 3) := dop_180 (dn_w dw95_0 1 rfl) rfl
theorem dX8_judge_4 : decode cX8_judge 4 = .ok (.aload_n 0, 1) := dop_42 (dn_w dw95_0 4 rfl)
theorem dX8_judge_5 : decode cX8_judge 5 = .ok (.getfield 10, 3) := dop_180 (dn_w dw95_0 5 rfl) rfl
theorem dX8_judge_8 : decode cX8_judge 8 = .ok (.aload_n 0, 1) := dop_42 (dn_w dw95_0 8 rfl)
theorem dX8_judge_9 : decode cX8_judge 9 = .ok (.getfield 40, 3) := dop_180 (dn_w dw95_0 9 rfl) rfl
theorem dX8_judge_12 : decode cX8_judge 12 = .ok (.invokevirtual 216, 3) := dop_182 (dn_w dw95_0 12 rfl) rfl
theorem dX8_judge_15 : decode cX8_judge 15 = .ok (.iconst 1, 1) := dop_4 (dn_w dw95_0 15 rfl)
theorem dX8_judge_16 : decode cX8_judge 16 = .ok (.iadd, 1) := dop_96 (dn_w dw95_1 0 rfl)
theorem dX8_judge_17 : decode cX8_judge 17 = .ok (.ireturn, 1) := dop_172 (dn_w dw95_1 1 rfl)
noncomputable def dt96_7 : List Nat := 47 :: 136 :: 16 :: 31 :: 126 :: 79 :: 132 :: 7 :: 1 :: 167 :: 255 :: 220 :: 21 :: 4 :: 172 :: []
noncomputable def dt96_6 : List Nat := 180 :: 0 :: 122 :: 29 :: 21 :: 7 :: 96 :: 25 :: 5 :: 180 :: 0 :: 229 :: 28 :: 21 :: 7 :: 96 :: dt96_7
noncomputable def dt96_5 : List Nat := 244 :: 172 :: 3 :: 54 :: 7 :: 21 :: 7 :: 21 :: 4 :: 162 :: 0 :: 35 :: 42 :: 180 :: 0 :: 10 :: dt96_6
noncomputable def dt96_4 : List Nat := 163 :: 0 :: 15 :: 21 :: 4 :: 25 :: 5 :: 180 :: 0 :: 226 :: 28 :: 100 :: 164 :: 0 :: 6 :: 16 :: dt96_5
noncomputable def dt96_3 : List Nat := 156 :: 0 :: 6 :: 21 :: 6 :: 172 :: 28 :: 155 :: 0 :: 24 :: 28 :: 25 :: 5 :: 180 :: 0 :: 226 :: dt96_4
noncomputable def dt96_2 : List Nat := 0 :: 46 :: 27 :: 50 :: 58 :: 5 :: 25 :: 5 :: 3 :: 182 :: 0 :: 223 :: 54 :: 6 :: 21 :: 6 :: dt96_3
noncomputable def dt96_1 : List Nat := 155 :: 0 :: 12 :: 21 :: 4 :: 16 :: 40 :: 29 :: 100 :: 164 :: 0 :: 5 :: 2 :: 172 :: 42 :: 180 :: dt96_2
noncomputable def dt96_0 : List Nat := 27 :: 184 :: 0 :: 220 :: 153 :: 0 :: 24 :: 29 :: 184 :: 0 :: 119 :: 153 :: 0 :: 17 :: 21 :: 4 :: dt96_1
theorem dw96_0 : dn cX8_events 0 = dt96_0 := by decide +kernel
theorem dw96_1 : dn cX8_events 16 = dt96_1 := dn_w dw96_0 16 rfl
theorem dw96_2 : dn cX8_events 32 = dt96_2 := dn_w dw96_1 16 rfl
theorem dw96_3 : dn cX8_events 48 = dt96_3 := dn_w dw96_2 16 rfl
theorem dw96_4 : dn cX8_events 64 = dt96_4 := dn_w dw96_3 16 rfl
theorem dw96_5 : dn cX8_events 80 = dt96_5 := dn_w dw96_4 16 rfl
theorem dw96_6 : dn cX8_events 96 = dt96_6 := dn_w dw96_5 16 rfl
theorem dw96_7 : dn cX8_events 112 = dt96_7 := dn_w dw96_6 16 rfl
theorem dX8_events_0 : decode cX8_events 0 = .ok (.iload_n 1, 1) := dop_27 (dn_w dw96_0 0 rfl)
theorem dX8_events_1 : decode cX8_events 1 = .ok (.invokestatic 220, 3) := dop_184 (dn_w dw96_0 1 rfl) rfl
theorem dX8_events_4 : decode cX8_events 4 = .ok (.ifCond .eq 24, 3) := dop_153 (dn_w dw96_0 4 rfl) rfl
theorem dX8_events_7 : decode cX8_events 7 = .ok (.iload_n 3, 1) := dop_29 (dn_w dw96_0 7 rfl)
theorem dX8_events_8 : decode cX8_events 8 = .ok (.invokestatic 119, 3) := dop_184 (dn_w dw96_0 8 rfl) rfl
theorem dX8_events_11 : decode cX8_events 11 = .ok (.ifCond .eq 17, 3) := dop_153 (dn_w dw96_0 11 rfl) rfl
theorem dX8_events_14 : decode cX8_events 14 = .ok (.iload 4, 2) := dop_21 (dn_w dw96_0 14 rfl)
theorem dX8_events_16 : decode cX8_events 16 = .ok (.ifCond .lt 12, 3) := dop_155 (dn_w dw96_1 0 rfl) rfl
theorem dX8_events_19 : decode cX8_events 19 = .ok (.iload 4, 2) := dop_21 (dn_w dw96_1 3 rfl)
theorem dX8_events_21 : decode cX8_events 21 = .ok (.bipush 40, 2) := dop_16 (dn_w dw96_1 5 rfl) rfl
theorem dX8_events_23 : decode cX8_events 23 = .ok (.iload_n 3, 1) := dop_29 (dn_w dw96_1 7 rfl)
theorem dX8_events_24 : decode cX8_events 24 = .ok (.isub, 1) := dop_100 (dn_w dw96_1 8 rfl)
theorem dX8_events_25 : decode cX8_events 25 = .ok (.if_icmp .le 5, 3) := dop_164 (dn_w dw96_1 9 rfl) rfl
theorem dX8_events_28 : decode cX8_events 28 = .ok (.iconst (-1), 1) := dop_2 (dn_w dw96_1 12 rfl)
theorem dX8_events_29 : decode cX8_events 29 = .ok (.ireturn, 1) := dop_172 (dn_w dw96_1 13 rfl)
theorem dX8_events_30 : decode cX8_events 30 = .ok (.aload_n 0, 1) := dop_42 (dn_w dw96_1 14 rfl)
theorem dX8_events_31 : decode cX8_events 31 = .ok (.getfield 46, 3) := dop_180 (dn_w dw96_1 15 rfl) rfl
theorem dX8_events_34 : decode cX8_events 34 = .ok (.iload_n 1, 1) := dop_27 (dn_w dw96_2 2 rfl)
theorem dX8_events_35 : decode cX8_events 35 = .ok (.aaload, 1) := dop_50 (dn_w dw96_2 3 rfl)
theorem dX8_events_36 : decode cX8_events 36 = .ok (.astore 5, 2) := dop_58 (dn_w dw96_2 4 rfl)
theorem dX8_events_38 : decode cX8_events 38 = .ok (.aload 5, 2) := dop_25 (dn_w dw96_2 6 rfl)
theorem dX8_events_40 : decode cX8_events 40 = .ok (.iconst 0, 1) := dop_3 (dn_w dw96_2 8 rfl)
theorem dX8_events_41 : decode cX8_events 41 = .ok (.invokevirtual 223, 3) := dop_182 (dn_w dw96_2 9 rfl) rfl
theorem dX8_events_44 : decode cX8_events 44 = .ok (.istore 6, 2) := dop_54 (dn_w dw96_2 12 rfl)
theorem dX8_events_46 : decode cX8_events 46 = .ok (.iload 6, 2) := dop_21 (dn_w dw96_2 14 rfl)
theorem dX8_events_48 : decode cX8_events 48 = .ok (.ifCond .ge 6, 3) := dop_156 (dn_w dw96_3 0 rfl) rfl
theorem dX8_events_51 : decode cX8_events 51 = .ok (.iload 6, 2) := dop_21 (dn_w dw96_3 3 rfl)
theorem dX8_events_53 : decode cX8_events 53 = .ok (.ireturn, 1) := dop_172 (dn_w dw96_3 5 rfl)
theorem dX8_events_54 : decode cX8_events 54 = .ok (.iload_n 2, 1) := dop_28 (dn_w dw96_3 6 rfl)
theorem dX8_events_55 : decode cX8_events 55 = .ok (.ifCond .lt 24, 3) := dop_155 (dn_w dw96_3 7 rfl) rfl
theorem dX8_events_58 : decode cX8_events 58 = .ok (.iload_n 2, 1) := dop_28 (dn_w dw96_3 10 rfl)
theorem dX8_events_59 : decode cX8_events 59 = .ok (.aload 5, 2) := dop_25 (dn_w dw96_3 11 rfl)
theorem dX8_events_61 : decode cX8_events 61 = .ok (.getfield 226, 3) := dop_180 (dn_w dw96_3 13 rfl) rfl
theorem dX8_events_64 : decode cX8_events 64 = .ok (.if_icmp .gt 15, 3) := dop_163 (dn_w dw96_4 0 rfl) rfl
theorem dX8_events_67 : decode cX8_events 67 = .ok (.iload 4, 2) := dop_21 (dn_w dw96_4 3 rfl)
theorem dX8_events_69 : decode cX8_events 69 = .ok (.aload 5, 2) := dop_25 (dn_w dw96_4 5 rfl)
theorem dX8_events_71 : decode cX8_events 71 = .ok (.getfield 226, 3) := dop_180 (dn_w dw96_4 7 rfl) rfl
theorem dX8_events_74 : decode cX8_events 74 = .ok (.iload_n 2, 1) := dop_28 (dn_w dw96_4 10 rfl)
theorem dX8_events_75 : decode cX8_events 75 = .ok (.isub, 1) := dop_100 (dn_w dw96_4 11 rfl)
theorem dX8_events_76 : decode cX8_events 76 = .ok (.if_icmp .le 6, 3) := dop_164 (dn_w dw96_4 12 rfl) rfl
theorem dX8_events_79 : decode cX8_events 79 = .ok (.bipush (-12), 2) := dop_16 (dn_w dw96_4 15 rfl) rfl
theorem dX8_events_81 : decode cX8_events 81 = .ok (.ireturn, 1) := dop_172 (dn_w dw96_5 1 rfl)
theorem dX8_events_82 : decode cX8_events 82 = .ok (.iconst 0, 1) := dop_3 (dn_w dw96_5 2 rfl)
theorem dX8_events_83 : decode cX8_events 83 = .ok (.istore 7, 2) := dop_54 (dn_w dw96_5 3 rfl)
theorem dX8_events_85 : decode cX8_events 85 = .ok (.iload 7, 2) := dop_21 (dn_w dw96_5 5 rfl)
theorem dX8_events_87 : decode cX8_events 87 = .ok (.iload 4, 2) := dop_21 (dn_w dw96_5 7 rfl)
theorem dX8_events_89 : decode cX8_events 89 = .ok (.if_icmp .ge 35, 3) := dop_162 (dn_w dw96_5 9 rfl) rfl
theorem dX8_events_92 : decode cX8_events 92 = .ok (.aload_n 0, 1) := dop_42 (dn_w dw96_5 12 rfl)
theorem dX8_events_93 : decode cX8_events 93 = .ok (.getfield 10, 3) := dop_180 (dn_w dw96_5 13 rfl) rfl
theorem dX8_events_96 : decode cX8_events 96 = .ok (.getfield 122, 3) := dop_180 (dn_w dw96_6 0 rfl) rfl
theorem dX8_events_99 : decode cX8_events 99 = .ok (.iload_n 3, 1) := dop_29 (dn_w dw96_6 3 rfl)
theorem dX8_events_100 : decode cX8_events 100 = .ok (.iload 7, 2) := dop_21 (dn_w dw96_6 4 rfl)
theorem dX8_events_102 : decode cX8_events 102 = .ok (.iadd, 1) := dop_96 (dn_w dw96_6 6 rfl)
theorem dX8_events_103 : decode cX8_events 103 = .ok (.aload 5, 2) := dop_25 (dn_w dw96_6 7 rfl)
theorem dX8_events_105 : decode cX8_events 105 = .ok (.getfield 229, 3) := dop_180 (dn_w dw96_6 9 rfl) rfl
theorem dX8_events_108 : decode cX8_events 108 = .ok (.iload_n 2, 1) := dop_28 (dn_w dw96_6 12 rfl)
theorem dX8_events_109 : decode cX8_events 109 = .ok (.iload 7, 2) := dop_21 (dn_w dw96_6 13 rfl)
theorem dX8_events_111 : decode cX8_events 111 = .ok (.iadd, 1) := dop_96 (dn_w dw96_6 15 rfl)
theorem dX8_events_112 : decode cX8_events 112 = .ok (.laload, 1) := dop_47 (dn_w dw96_7 0 rfl)
theorem dX8_events_113 : decode cX8_events 113 = .ok (.l2i, 1) := dop_136 (dn_w dw96_7 1 rfl)
theorem dX8_events_114 : decode cX8_events 114 = .ok (.bipush 31, 2) := dop_16 (dn_w dw96_7 2 rfl) rfl
theorem dX8_events_116 : decode cX8_events 116 = .ok (.iand, 1) := dop_126 (dn_w dw96_7 4 rfl)
theorem dX8_events_117 : decode cX8_events 117 = .ok (.iastore, 1) := dop_79 (dn_w dw96_7 5 rfl)
theorem dX8_events_118 : decode cX8_events 118 = .ok (.iinc 7 1, 3) := dop_132 (dn_w dw96_7 6 rfl) rfl
theorem dX8_events_121 : decode cX8_events 121 = .ok (.goto (-36), 3) := dop_167 (dn_w dw96_7 9 rfl) rfl
theorem dX8_events_124 : decode cX8_events 124 = .ok (.iload 4, 2) := dop_21 (dn_w dw96_7 12 rfl)
theorem dX8_events_126 : decode cX8_events 126 = .ok (.ireturn, 1) := dop_172 (dn_w dw96_7 14 rfl)
noncomputable def dt97_4 : List Nat := 4 :: 172 :: []
noncomputable def dt97_3 : List Nat := 27 :: 50 :: 28 :: 28 :: 2 :: 160 :: 0 :: 7 :: 3 :: 167 :: 0 :: 4 :: 29 :: 182 :: 0 :: 233 :: dt97_4
noncomputable def dt97_2 : List Nat := 28 :: 2 :: 159 :: 0 :: 10 :: 29 :: 156 :: 0 :: 6 :: 16 :: 242 :: 172 :: 42 :: 180 :: 0 :: 46 :: dt97_3
noncomputable def dt97_1 : List Nat := 5 :: 2 :: 172 :: 28 :: 2 :: 159 :: 0 :: 11 :: 29 :: 16 :: 40 :: 164 :: 0 :: 5 :: 2 :: 172 :: dt97_2
noncomputable def dt97_0 : List Nat := 27 :: 184 :: 0 :: 220 :: 153 :: 0 :: 13 :: 28 :: 2 :: 161 :: 0 :: 8 :: 28 :: 7 :: 161 :: 0 :: dt97_1
theorem dw97_0 : dn cX8_sheet 0 = dt97_0 := by decide +kernel
theorem dw97_1 : dn cX8_sheet 16 = dt97_1 := dn_w dw97_0 16 rfl
theorem dw97_2 : dn cX8_sheet 32 = dt97_2 := dn_w dw97_1 16 rfl
theorem dw97_3 : dn cX8_sheet 48 = dt97_3 := dn_w dw97_2 16 rfl
theorem dw97_4 : dn cX8_sheet 64 = dt97_4 := dn_w dw97_3 16 rfl
theorem dX8_sheet_0 : decode cX8_sheet 0 = .ok (.iload_n 1, 1) := dop_27 (dn_w dw97_0 0 rfl)
theorem dX8_sheet_1 : decode cX8_sheet 1 = .ok (.invokestatic 220, 3) := dop_184 (dn_w dw97_0 1 rfl) rfl
theorem dX8_sheet_4 : decode cX8_sheet 4 = .ok (.ifCond .eq 13, 3) := dop_153 (dn_w dw97_0 4 rfl) rfl
theorem dX8_sheet_7 : decode cX8_sheet 7 = .ok (.iload_n 2, 1) := dop_28 (dn_w dw97_0 7 rfl)
theorem dX8_sheet_8 : decode cX8_sheet 8 = .ok (.iconst (-1), 1) := dop_2 (dn_w dw97_0 8 rfl)
theorem dX8_sheet_9 : decode cX8_sheet 9 = .ok (.if_icmp .lt 8, 3) := dop_161 (dn_w dw97_0 9 rfl) rfl
theorem dX8_sheet_12 : decode cX8_sheet 12 = .ok (.iload_n 2, 1) := dop_28 (dn_w dw97_0 12 rfl)
theorem dX8_sheet_13 : decode cX8_sheet 13 = .ok (.iconst 4, 1) := dop_7 (dn_w dw97_0 13 rfl)
theorem dX8_sheet_14 : decode cX8_sheet 14 = .ok (.if_icmp .lt 5, 3) := dop_161 (dn_w dw97_0 14 rfl) rfl
theorem dX8_sheet_17 : decode cX8_sheet 17 = .ok (.iconst (-1), 1) := dop_2 (dn_w dw97_1 1 rfl)
theorem dX8_sheet_18 : decode cX8_sheet 18 = .ok (.ireturn, 1) := dop_172 (dn_w dw97_1 2 rfl)
theorem dX8_sheet_19 : decode cX8_sheet 19 = .ok (.iload_n 2, 1) := dop_28 (dn_w dw97_1 3 rfl)
theorem dX8_sheet_20 : decode cX8_sheet 20 = .ok (.iconst (-1), 1) := dop_2 (dn_w dw97_1 4 rfl)
theorem dX8_sheet_21 : decode cX8_sheet 21 = .ok (.if_icmp .eq 11, 3) := dop_159 (dn_w dw97_1 5 rfl) rfl
theorem dX8_sheet_24 : decode cX8_sheet 24 = .ok (.iload_n 3, 1) := dop_29 (dn_w dw97_1 8 rfl)
theorem dX8_sheet_25 : decode cX8_sheet 25 = .ok (.bipush 40, 2) := dop_16 (dn_w dw97_1 9 rfl) rfl
theorem dX8_sheet_27 : decode cX8_sheet 27 = .ok (.if_icmp .le 5, 3) := dop_164 (dn_w dw97_1 11 rfl) rfl
theorem dX8_sheet_30 : decode cX8_sheet 30 = .ok (.iconst (-1), 1) := dop_2 (dn_w dw97_1 14 rfl)
theorem dX8_sheet_31 : decode cX8_sheet 31 = .ok (.ireturn, 1) := dop_172 (dn_w dw97_1 15 rfl)
theorem dX8_sheet_32 : decode cX8_sheet 32 = .ok (.iload_n 2, 1) := dop_28 (dn_w dw97_2 0 rfl)
theorem dX8_sheet_33 : decode cX8_sheet 33 = .ok (.iconst (-1), 1) := dop_2 (dn_w dw97_2 1 rfl)
theorem dX8_sheet_34 : decode cX8_sheet 34 = .ok (.if_icmp .eq 10, 3) := dop_159 (dn_w dw97_2 2 rfl) rfl
theorem dX8_sheet_37 : decode cX8_sheet 37 = .ok (.iload_n 3, 1) := dop_29 (dn_w dw97_2 5 rfl)
theorem dX8_sheet_38 : decode cX8_sheet 38 = .ok (.ifCond .ge 6, 3) := dop_156 (dn_w dw97_2 6 rfl) rfl
theorem dX8_sheet_41 : decode cX8_sheet 41 = .ok (.bipush (-14), 2) := dop_16 (dn_w dw97_2 9 rfl) rfl
theorem dX8_sheet_43 : decode cX8_sheet 43 = .ok (.ireturn, 1) := dop_172 (dn_w dw97_2 11 rfl)
theorem dX8_sheet_44 : decode cX8_sheet 44 = .ok (.aload_n 0, 1) := dop_42 (dn_w dw97_2 12 rfl)
theorem dX8_sheet_45 : decode cX8_sheet 45 = .ok (.getfield 46, 3) := dop_180 (dn_w dw97_2 13 rfl) rfl
theorem dX8_sheet_48 : decode cX8_sheet 48 = .ok (.iload_n 1, 1) := dop_27 (dn_w dw97_3 0 rfl)
theorem dX8_sheet_49 : decode cX8_sheet 49 = .ok (.aaload, 1) := dop_50 (dn_w dw97_3 1 rfl)
theorem dX8_sheet_50 : decode cX8_sheet 50 = .ok (.iload_n 2, 1) := dop_28 (dn_w dw97_3 2 rfl)
theorem dX8_sheet_51 : decode cX8_sheet 51 = .ok (.iload_n 2, 1) := dop_28 (dn_w dw97_3 3 rfl)
theorem dX8_sheet_52 : decode cX8_sheet 52 = .ok (.iconst (-1), 1) := dop_2 (dn_w dw97_3 4 rfl)
theorem dX8_sheet_53 : decode cX8_sheet 53 = .ok (.if_icmp .ne 7, 3) := dop_160 (dn_w dw97_3 5 rfl) rfl
theorem dX8_sheet_56 : decode cX8_sheet 56 = .ok (.iconst 0, 1) := dop_3 (dn_w dw97_3 8 rfl)
theorem dX8_sheet_57 : decode cX8_sheet 57 = .ok (.goto 4, 3) := dop_167 (dn_w dw97_3 9 rfl) rfl
theorem dX8_sheet_60 : decode cX8_sheet 60 = .ok (.iload_n 3, 1) := dop_29 (dn_w dw97_3 12 rfl)
theorem dX8_sheet_61 : decode cX8_sheet 61 = .ok (.invokevirtual 233, 3) := dop_182 (dn_w dw97_3 13 rfl) rfl
theorem dX8_sheet_64 : decode cX8_sheet 64 = .ok (.iconst 1, 1) := dop_4 (dn_w dw97_4 0 rfl)
theorem dX8_sheet_65 : decode cX8_sheet 65 = .ok (.ireturn, 1) := dop_172 (dn_w dw97_4 1 rfl)
noncomputable def dt98_3 : List Nat := 4 :: 29 :: 182 :: 0 :: 243 :: 80 :: 4 :: 172 :: []
noncomputable def dt98_2 : List Nat := 182 :: 0 :: 240 :: 154 :: 0 :: 6 :: 16 :: 244 :: 172 :: 25 :: 4 :: 180 :: 0 :: 229 :: 28 :: 25 :: dt98_3
noncomputable def dt98_1 : List Nat := 4 :: 25 :: 4 :: 180 :: 0 :: 237 :: 2 :: 160 :: 0 :: 6 :: 16 :: 245 :: 172 :: 25 :: 4 :: 28 :: dt98_2
noncomputable def dt98_0 : List Nat := 27 :: 184 :: 0 :: 220 :: 154 :: 0 :: 5 :: 2 :: 172 :: 42 :: 180 :: 0 :: 46 :: 27 :: 50 :: 58 :: dt98_1
theorem dw98_0 : dn cX8_put 0 = dt98_0 := by decide +kernel
theorem dw98_1 : dn cX8_put 16 = dt98_1 := dn_w dw98_0 16 rfl
theorem dw98_2 : dn cX8_put 32 = dt98_2 := dn_w dw98_1 16 rfl
theorem dw98_3 : dn cX8_put 48 = dt98_3 := dn_w dw98_2 16 rfl
theorem dX8_put_0 : decode cX8_put 0 = .ok (.iload_n 1, 1) := dop_27 (dn_w dw98_0 0 rfl)
theorem dX8_put_1 : decode cX8_put 1 = .ok (.invokestatic 220, 3) := dop_184 (dn_w dw98_0 1 rfl) rfl
theorem dX8_put_4 : decode cX8_put 4 = .ok (.ifCond .ne 5, 3) := dop_154 (dn_w dw98_0 4 rfl) rfl
theorem dX8_put_7 : decode cX8_put 7 = .ok (.iconst (-1), 1) := dop_2 (dn_w dw98_0 7 rfl)
theorem dX8_put_8 : decode cX8_put 8 = .ok (.ireturn, 1) := dop_172 (dn_w dw98_0 8 rfl)
theorem dX8_put_9 : decode cX8_put 9 = .ok (.aload_n 0, 1) := dop_42 (dn_w dw98_0 9 rfl)
theorem dX8_put_10 : decode cX8_put 10 = .ok (.getfield 46, 3) := dop_180 (dn_w dw98_0 10 rfl) rfl
theorem dX8_put_13 : decode cX8_put 13 = .ok (.iload_n 1, 1) := dop_27 (dn_w dw98_0 13 rfl)
theorem dX8_put_14 : decode cX8_put 14 = .ok (.aaload, 1) := dop_50 (dn_w dw98_0 14 rfl)
theorem dX8_put_15 : decode cX8_put 15 = .ok (.astore 4, 2) := dop_58 (dn_w dw98_0 15 rfl)
theorem dX8_put_17 : decode cX8_put 17 = .ok (.aload 4, 2) := dop_25 (dn_w dw98_1 1 rfl)
theorem dX8_put_19 : decode cX8_put 19 = .ok (.getfield 237, 3) := dop_180 (dn_w dw98_1 3 rfl) rfl
theorem dX8_put_22 : decode cX8_put 22 = .ok (.iconst (-1), 1) := dop_2 (dn_w dw98_1 6 rfl)
theorem dX8_put_23 : decode cX8_put 23 = .ok (.if_icmp .ne 6, 3) := dop_160 (dn_w dw98_1 7 rfl) rfl
theorem dX8_put_26 : decode cX8_put 26 = .ok (.bipush (-11), 2) := dop_16 (dn_w dw98_1 10 rfl) rfl
theorem dX8_put_28 : decode cX8_put 28 = .ok (.ireturn, 1) := dop_172 (dn_w dw98_1 12 rfl)
theorem dX8_put_29 : decode cX8_put 29 = .ok (.aload 4, 2) := dop_25 (dn_w dw98_1 13 rfl)
theorem dX8_put_31 : decode cX8_put 31 = .ok (.iload_n 2, 1) := dop_28 (dn_w dw98_1 15 rfl)
theorem dX8_put_32 : decode cX8_put 32 = .ok (.invokevirtual 240, 3) := dop_182 (dn_w dw98_2 0 rfl) rfl
theorem dX8_put_35 : decode cX8_put 35 = .ok (.ifCond .ne 6, 3) := dop_154 (dn_w dw98_2 3 rfl) rfl
theorem dX8_put_38 : decode cX8_put 38 = .ok (.bipush (-12), 2) := dop_16 (dn_w dw98_2 6 rfl) rfl
theorem dX8_put_40 : decode cX8_put 40 = .ok (.ireturn, 1) := dop_172 (dn_w dw98_2 8 rfl)
theorem dX8_put_41 : decode cX8_put 41 = .ok (.aload 4, 2) := dop_25 (dn_w dw98_2 9 rfl)
theorem dX8_put_43 : decode cX8_put 43 = .ok (.getfield 229, 3) := dop_180 (dn_w dw98_2 11 rfl) rfl
theorem dX8_put_46 : decode cX8_put 46 = .ok (.iload_n 2, 1) := dop_28 (dn_w dw98_2 14 rfl)
theorem dX8_put_47 : decode cX8_put 47 = .ok (.aload 4, 2) := dop_25 (dn_w dw98_2 15 rfl)
theorem dX8_put_49 : decode cX8_put 49 = .ok (.iload_n 3, 1) := dop_29 (dn_w dw98_3 1 rfl)
theorem dX8_put_50 : decode cX8_put 50 = .ok (.invokevirtual 243, 3) := dop_182 (dn_w dw98_3 2 rfl) rfl
theorem dX8_put_53 : decode cX8_put 53 = .ok (.lastore, 1) := dop_80 (dn_w dw98_3 5 rfl)
theorem dX8_put_54 : decode cX8_put 54 = .ok (.iconst 1, 1) := dop_4 (dn_w dw98_3 6 rfl)
theorem dX8_put_55 : decode cX8_put 55 = .ok (.ireturn, 1) := dop_172 (dn_w dw98_3 7 rfl)
noncomputable def dt99_3 : List Nat := 14 :: 25 :: 4 :: 180 :: 0 :: 229 :: 29 :: 47 :: 136 :: 167 :: 0 :: 5 :: 16 :: 244 :: 172 :: []
noncomputable def dt99_2 : List Nat := 21 :: 5 :: 156 :: 0 :: 6 :: 21 :: 5 :: 172 :: 25 :: 4 :: 29 :: 182 :: 0 :: 240 :: 153 :: 0 :: dt99_3
noncomputable def dt99_1 : List Nat := 42 :: 180 :: 0 :: 46 :: 27 :: 50 :: 58 :: 4 :: 25 :: 4 :: 28 :: 182 :: 0 :: 223 :: 54 :: 5 :: dt99_2
noncomputable def dt99_0 : List Nat := 27 :: 184 :: 0 :: 220 :: 153 :: 0 :: 10 :: 28 :: 184 :: 0 :: 247 :: 154 :: 0 :: 5 :: 2 :: 172 :: dt99_1
theorem dw99_0 : dn cX8_item 0 = dt99_0 := by decide +kernel
theorem dw99_1 : dn cX8_item 16 = dt99_1 := dn_w dw99_0 16 rfl
theorem dw99_2 : dn cX8_item 32 = dt99_2 := dn_w dw99_1 16 rfl
theorem dw99_3 : dn cX8_item 48 = dt99_3 := dn_w dw99_2 16 rfl
theorem dX8_item_0 : decode cX8_item 0 = .ok (.iload_n 1, 1) := dop_27 (dn_w dw99_0 0 rfl)
theorem dX8_item_1 : decode cX8_item 1 = .ok (.invokestatic 220, 3) := dop_184 (dn_w dw99_0 1 rfl) rfl
theorem dX8_item_4 : decode cX8_item 4 = .ok (.ifCond .eq 10, 3) := dop_153 (dn_w dw99_0 4 rfl) rfl
theorem dX8_item_7 : decode cX8_item 7 = .ok (.iload_n 2, 1) := dop_28 (dn_w dw99_0 7 rfl)
theorem dX8_item_8 : decode cX8_item 8 = .ok (.invokestatic 247, 3) := dop_184 (dn_w dw99_0 8 rfl) rfl
theorem dX8_item_11 : decode cX8_item 11 = .ok (.ifCond .ne 5, 3) := dop_154 (dn_w dw99_0 11 rfl) rfl
theorem dX8_item_14 : decode cX8_item 14 = .ok (.iconst (-1), 1) := dop_2 (dn_w dw99_0 14 rfl)
theorem dX8_item_15 : decode cX8_item 15 = .ok (.ireturn, 1) := dop_172 (dn_w dw99_0 15 rfl)
theorem dX8_item_16 : decode cX8_item 16 = .ok (.aload_n 0, 1) := dop_42 (dn_w dw99_1 0 rfl)
theorem dX8_item_17 : decode cX8_item 17 = .ok (.getfield 46, 3) := dop_180 (dn_w dw99_1 1 rfl) rfl
theorem dX8_item_20 : decode cX8_item 20 = .ok (.iload_n 1, 1) := dop_27 (dn_w dw99_1 4 rfl)
theorem dX8_item_21 : decode cX8_item 21 = .ok (.aaload, 1) := dop_50 (dn_w dw99_1 5 rfl)
theorem dX8_item_22 : decode cX8_item 22 = .ok (.astore 4, 2) := dop_58 (dn_w dw99_1 6 rfl)
theorem dX8_item_24 : decode cX8_item 24 = .ok (.aload 4, 2) := dop_25 (dn_w dw99_1 8 rfl)
theorem dX8_item_26 : decode cX8_item 26 = .ok (.iload_n 2, 1) := dop_28 (dn_w dw99_1 10 rfl)
theorem dX8_item_27 : decode cX8_item 27 = .ok (.invokevirtual 223, 3) := dop_182 (dn_w dw99_1 11 rfl) rfl
theorem dX8_item_30 : decode cX8_item 30 = .ok (.istore 5, 2) := dop_54 (dn_w dw99_1 14 rfl)
theorem dX8_item_32 : decode cX8_item 32 = .ok (.iload 5, 2) := dop_21 (dn_w dw99_2 0 rfl)
theorem dX8_item_34 : decode cX8_item 34 = .ok (.ifCond .ge 6, 3) := dop_156 (dn_w dw99_2 2 rfl) rfl
theorem dX8_item_37 : decode cX8_item 37 = .ok (.iload 5, 2) := dop_21 (dn_w dw99_2 5 rfl)
theorem dX8_item_39 : decode cX8_item 39 = .ok (.ireturn, 1) := dop_172 (dn_w dw99_2 7 rfl)
theorem dX8_item_40 : decode cX8_item 40 = .ok (.aload 4, 2) := dop_25 (dn_w dw99_2 8 rfl)
theorem dX8_item_42 : decode cX8_item 42 = .ok (.iload_n 3, 1) := dop_29 (dn_w dw99_2 10 rfl)
theorem dX8_item_43 : decode cX8_item 43 = .ok (.invokevirtual 240, 3) := dop_182 (dn_w dw99_2 11 rfl) rfl
theorem dX8_item_46 : decode cX8_item 46 = .ok (.ifCond .eq 14, 3) := dop_153 (dn_w dw99_2 14 rfl) rfl
theorem dX8_item_49 : decode cX8_item 49 = .ok (.aload 4, 2) := dop_25 (dn_w dw99_3 1 rfl)
theorem dX8_item_51 : decode cX8_item 51 = .ok (.getfield 229, 3) := dop_180 (dn_w dw99_3 3 rfl) rfl
theorem dX8_item_54 : decode cX8_item 54 = .ok (.iload_n 3, 1) := dop_29 (dn_w dw99_3 6 rfl)
theorem dX8_item_55 : decode cX8_item 55 = .ok (.laload, 1) := dop_47 (dn_w dw99_3 7 rfl)
theorem dX8_item_56 : decode cX8_item 56 = .ok (.l2i, 1) := dop_136 (dn_w dw99_3 8 rfl)
theorem dX8_item_57 : decode cX8_item 57 = .ok (.goto 5, 3) := dop_167 (dn_w dw99_3 9 rfl) rfl
theorem dX8_item_60 : decode cX8_item 60 = .ok (.bipush (-12), 2) := dop_16 (dn_w dw99_3 12 rfl) rfl
theorem dX8_item_62 : decode cX8_item 62 = .ok (.ireturn, 1) := dop_172 (dn_w dw99_3 14 rfl)
noncomputable def dt100_7 : List Nat := 25 :: 4 :: 5 :: 181 :: 1 :: 4 :: 4 :: 172 :: []
noncomputable def dt100_6 : List Nat := 237 :: 42 :: 180 :: 0 :: 46 :: 29 :: 50 :: 180 :: 0 :: 226 :: 182 :: 1 :: 1 :: 167 :: 0 :: 9 :: dt100_7
noncomputable def dt100_5 : List Nat := 0 :: 237 :: 2 :: 159 :: 0 :: 29 :: 25 :: 4 :: 42 :: 180 :: 0 :: 46 :: 29 :: 50 :: 180 :: 0 :: dt100_6
noncomputable def dt100_4 : List Nat := 253 :: 167 :: 0 :: 53 :: 28 :: 4 :: 160 :: 0 :: 42 :: 42 :: 180 :: 0 :: 46 :: 29 :: 50 :: 180 :: dt100_5
noncomputable def dt100_3 : List Nat := 180 :: 0 :: 52 :: 27 :: 50 :: 58 :: 4 :: 28 :: 154 :: 0 :: 12 :: 25 :: 4 :: 29 :: 182 :: 0 :: dt100_4
noncomputable def dt100_2 : List Nat := 15 :: 28 :: 4 :: 160 :: 0 :: 12 :: 29 :: 184 :: 0 :: 220 :: 154 :: 0 :: 5 :: 2 :: 172 :: 42 :: dt100_3
noncomputable def dt100_1 : List Nat := 2 :: 172 :: 28 :: 154 :: 0 :: 14 :: 42 :: 180 :: 0 :: 10 :: 29 :: 182 :: 0 :: 102 :: 153 :: 0 :: dt100_2
noncomputable def dt100_0 : List Nat := 27 :: 184 :: 0 :: 250 :: 153 :: 0 :: 12 :: 28 :: 155 :: 0 :: 8 :: 28 :: 5 :: 164 :: 0 :: 5 :: dt100_1
theorem dw100_0 : dn cX8_shelf 0 = dt100_0 := by decide +kernel
theorem dw100_1 : dn cX8_shelf 16 = dt100_1 := dn_w dw100_0 16 rfl
theorem dw100_2 : dn cX8_shelf 32 = dt100_2 := dn_w dw100_1 16 rfl
theorem dw100_3 : dn cX8_shelf 48 = dt100_3 := dn_w dw100_2 16 rfl
theorem dw100_4 : dn cX8_shelf 64 = dt100_4 := dn_w dw100_3 16 rfl
theorem dw100_5 : dn cX8_shelf 80 = dt100_5 := dn_w dw100_4 16 rfl
theorem dw100_6 : dn cX8_shelf 96 = dt100_6 := dn_w dw100_5 16 rfl
theorem dw100_7 : dn cX8_shelf 112 = dt100_7 := dn_w dw100_6 16 rfl
theorem dX8_shelf_0 : decode cX8_shelf 0 = .ok (.iload_n 1, 1) := dop_27 (dn_w dw100_0 0 rfl)
theorem dX8_shelf_1 : decode cX8_shelf 1 = .ok (.invokestatic 250, 3) := dop_184 (dn_w dw100_0 1 rfl) rfl
theorem dX8_shelf_4 : decode cX8_shelf 4 = .ok (.ifCond .eq 12, 3) := dop_153 (dn_w dw100_0 4 rfl) rfl
theorem dX8_shelf_7 : decode cX8_shelf 7 = .ok (.iload_n 2, 1) := dop_28 (dn_w dw100_0 7 rfl)
theorem dX8_shelf_8 : decode cX8_shelf 8 = .ok (.ifCond .lt 8, 3) := dop_155 (dn_w dw100_0 8 rfl) rfl
theorem dX8_shelf_11 : decode cX8_shelf 11 = .ok (.iload_n 2, 1) := dop_28 (dn_w dw100_0 11 rfl)
theorem dX8_shelf_12 : decode cX8_shelf 12 = .ok (.iconst 2, 1) := dop_5 (dn_w dw100_0 12 rfl)
theorem dX8_shelf_13 : decode cX8_shelf 13 = .ok (.if_icmp .le 5, 3) := dop_164 (dn_w dw100_0 13 rfl) rfl
theorem dX8_shelf_16 : decode cX8_shelf 16 = .ok (.iconst (-1), 1) := dop_2 (dn_w dw100_1 0 rfl)
theorem dX8_shelf_17 : decode cX8_shelf 17 = .ok (.ireturn, 1) := dop_172 (dn_w dw100_1 1 rfl)
theorem dX8_shelf_18 : decode cX8_shelf 18 = .ok (.iload_n 2, 1) := dop_28 (dn_w dw100_1 2 rfl)
theorem dX8_shelf_19 : decode cX8_shelf 19 = .ok (.ifCond .ne 14, 3) := dop_154 (dn_w dw100_1 3 rfl) rfl
theorem dX8_shelf_22 : decode cX8_shelf 22 = .ok (.aload_n 0, 1) := dop_42 (dn_w dw100_1 6 rfl)
theorem dX8_shelf_23 : decode cX8_shelf 23 = .ok (.getfield 10, 3) := dop_180 (dn_w dw100_1 7 rfl) rfl
theorem dX8_shelf_26 : decode cX8_shelf 26 = .ok (.iload_n 3, 1) := dop_29 (dn_w dw100_1 10 rfl)
theorem dX8_shelf_27 : decode cX8_shelf 27 = .ok (.invokevirtual 102, 3) := dop_182 (dn_w dw100_1 11 rfl) rfl
theorem dX8_shelf_30 : decode cX8_shelf 30 = .ok (.ifCond .eq 15, 3) := dop_153 (dn_w dw100_1 14 rfl) rfl
theorem dX8_shelf_33 : decode cX8_shelf 33 = .ok (.iload_n 2, 1) := dop_28 (dn_w dw100_2 1 rfl)
theorem dX8_shelf_34 : decode cX8_shelf 34 = .ok (.iconst 1, 1) := dop_4 (dn_w dw100_2 2 rfl)
theorem dX8_shelf_35 : decode cX8_shelf 35 = .ok (.if_icmp .ne 12, 3) := dop_160 (dn_w dw100_2 3 rfl) rfl
theorem dX8_shelf_38 : decode cX8_shelf 38 = .ok (.iload_n 3, 1) := dop_29 (dn_w dw100_2 6 rfl)
theorem dX8_shelf_39 : decode cX8_shelf 39 = .ok (.invokestatic 220, 3) := dop_184 (dn_w dw100_2 7 rfl) rfl
theorem dX8_shelf_42 : decode cX8_shelf 42 = .ok (.ifCond .ne 5, 3) := dop_154 (dn_w dw100_2 10 rfl) rfl
theorem dX8_shelf_45 : decode cX8_shelf 45 = .ok (.iconst (-1), 1) := dop_2 (dn_w dw100_2 13 rfl)
theorem dX8_shelf_46 : decode cX8_shelf 46 = .ok (.ireturn, 1) := dop_172 (dn_w dw100_2 14 rfl)
theorem dX8_shelf_47 : decode cX8_shelf 47 = .ok (.aload_n 0, 1) := dop_42 (dn_w dw100_2 15 rfl)
theorem dX8_shelf_48 : decode cX8_shelf 48 = .ok (.getfield 52, 3) := dop_180 (dn_w dw100_3 0 rfl) rfl
theorem dX8_shelf_51 : decode cX8_shelf 51 = .ok (.iload_n 1, 1) := dop_27 (dn_w dw100_3 3 rfl)
theorem dX8_shelf_52 : decode cX8_shelf 52 = .ok (.aaload, 1) := dop_50 (dn_w dw100_3 4 rfl)
theorem dX8_shelf_53 : decode cX8_shelf 53 = .ok (.astore 4, 2) := dop_58 (dn_w dw100_3 5 rfl)
theorem dX8_shelf_55 : decode cX8_shelf 55 = .ok (.iload_n 2, 1) := dop_28 (dn_w dw100_3 7 rfl)
theorem dX8_shelf_56 : decode cX8_shelf 56 = .ok (.ifCond .ne 12, 3) := dop_154 (dn_w dw100_3 8 rfl) rfl
theorem dX8_shelf_59 : decode cX8_shelf 59 = .ok (.aload 4, 2) := dop_25 (dn_w dw100_3 11 rfl)
theorem dX8_shelf_61 : decode cX8_shelf 61 = .ok (.iload_n 3, 1) := dop_29 (dn_w dw100_3 13 rfl)
theorem dX8_shelf_62 : decode cX8_shelf 62 = .ok (.invokevirtual 253, 3) := dop_182 (dn_w dw100_3 14 rfl) rfl
theorem dX8_shelf_65 : decode cX8_shelf 65 = .ok (.goto 53, 3) := dop_167 (dn_w dw100_4 1 rfl) rfl
theorem dX8_shelf_68 : decode cX8_shelf 68 = .ok (.iload_n 2, 1) := dop_28 (dn_w dw100_4 4 rfl)
theorem dX8_shelf_69 : decode cX8_shelf 69 = .ok (.iconst 1, 1) := dop_4 (dn_w dw100_4 5 rfl)
theorem dX8_shelf_70 : decode cX8_shelf 70 = .ok (.if_icmp .ne 42, 3) := dop_160 (dn_w dw100_4 6 rfl) rfl
theorem dX8_shelf_73 : decode cX8_shelf 73 = .ok (.aload_n 0, 1) := dop_42 (dn_w dw100_4 9 rfl)
theorem dX8_shelf_74 : decode cX8_shelf 74 = .ok (.getfield 46, 3) := dop_180 (dn_w dw100_4 10 rfl) rfl
theorem dX8_shelf_77 : decode cX8_shelf 77 = .ok (.iload_n 3, 1) := dop_29 (dn_w dw100_4 13 rfl)
theorem dX8_shelf_78 : decode cX8_shelf 78 = .ok (.aaload, 1) := dop_50 (dn_w dw100_4 14 rfl)
theorem dX8_shelf_79 : decode cX8_shelf 79 = .ok (.getfield 237, 3) := dop_180 (dn_w dw100_4 15 rfl) rfl
theorem dX8_shelf_82 : decode cX8_shelf 82 = .ok (.iconst (-1), 1) := dop_2 (dn_w dw100_5 2 rfl)
theorem dX8_shelf_83 : decode cX8_shelf 83 = .ok (.if_icmp .eq 29, 3) := dop_159 (dn_w dw100_5 3 rfl) rfl
theorem dX8_shelf_86 : decode cX8_shelf 86 = .ok (.aload 4, 2) := dop_25 (dn_w dw100_5 6 rfl)
theorem dX8_shelf_88 : decode cX8_shelf 88 = .ok (.aload_n 0, 1) := dop_42 (dn_w dw100_5 8 rfl)
theorem dX8_shelf_89 : decode cX8_shelf 89 = .ok (.getfield 46, 3) := dop_180 (dn_w dw100_5 9 rfl) rfl
theorem dX8_shelf_92 : decode cX8_shelf 92 = .ok (.iload_n 3, 1) := dop_29 (dn_w dw100_5 12 rfl)
theorem dX8_shelf_93 : decode cX8_shelf 93 = .ok (.aaload, 1) := dop_50 (dn_w dw100_5 13 rfl)
theorem dX8_shelf_94 : decode cX8_shelf 94 = .ok (.getfield 237, 3) := dop_180 (dn_w dw100_5 14 rfl) rfl
theorem dX8_shelf_97 : decode cX8_shelf 97 = .ok (.aload_n 0, 1) := dop_42 (dn_w dw100_6 1 rfl)
theorem dX8_shelf_98 : decode cX8_shelf 98 = .ok (.getfield 46, 3) := dop_180 (dn_w dw100_6 2 rfl) rfl
theorem dX8_shelf_101 : decode cX8_shelf 101 = .ok (.iload_n 3, 1) := dop_29 (dn_w dw100_6 5 rfl)
theorem dX8_shelf_102 : decode cX8_shelf 102 = .ok (.aaload, 1) := dop_50 (dn_w dw100_6 6 rfl)
theorem dX8_shelf_103 : decode cX8_shelf 103 = .ok (.getfield 226, 3) := dop_180 (dn_w dw100_6 7 rfl) rfl
theorem dX8_shelf_106 : decode cX8_shelf 106 = .ok (.invokevirtual 257, 3) := dop_182 (dn_w dw100_6 10 rfl) rfl
theorem dX8_shelf_109 : decode cX8_shelf 109 = .ok (.goto 9, 3) := dop_167 (dn_w dw100_6 13 rfl) rfl
theorem dX8_shelf_112 : decode cX8_shelf 112 = .ok (.aload 4, 2) := dop_25 (dn_w dw100_7 0 rfl)
theorem dX8_shelf_114 : decode cX8_shelf 114 = .ok (.iconst 2, 1) := dop_5 (dn_w dw100_7 2 rfl)
theorem dX8_shelf_115 : decode cX8_shelf 115 = .ok (.putfield 260, 3) := dop_181 (dn_w dw100_7 3 rfl) rfl
theorem dX8_shelf_118 : decode cX8_shelf 118 = .ok (.iconst 1, 1) := dop_4 (dn_w dw100_7 6 rfl)
theorem dX8_shelf_119 : decode cX8_shelf 119 = .ok (.ireturn, 1) := dop_172 (dn_w dw100_7 7 rfl)
noncomputable def dt101_6 : List Nat := 153 :: 0 :: 10 :: 45 :: 180 :: 1 :: 8 :: 167 :: 0 :: 5 :: 16 :: 243 :: 172 :: []
noncomputable def dt101_5 : List Nat := 42 :: 180 :: 0 :: 10 :: 180 :: 0 :: 109 :: 45 :: 180 :: 1 :: 8 :: 46 :: 28 :: 184 :: 1 :: 15 :: dt101_6
noncomputable def dt101_4 : List Nat := 182 :: 1 :: 11 :: 154 :: 0 :: 6 :: 16 :: 245 :: 172 :: 28 :: 184 :: 0 :: 88 :: 153 :: 0 :: 29 :: dt101_5
noncomputable def dt101_3 : List Nat := 100 :: 160 :: 0 :: 10 :: 45 :: 180 :: 1 :: 8 :: 167 :: 0 :: 5 :: 16 :: 243 :: 172 :: 42 :: 45 :: dt101_4
noncomputable def dt101_2 : List Nat := 78 :: 45 :: 180 :: 1 :: 4 :: 4 :: 160 :: 0 :: 24 :: 45 :: 180 :: 1 :: 7 :: 28 :: 16 :: 10 :: dt101_3
noncomputable def dt101_1 : List Nat := 10 :: 100 :: 184 :: 0 :: 247 :: 154 :: 0 :: 5 :: 2 :: 172 :: 42 :: 180 :: 0 :: 52 :: 27 :: 50 :: dt101_2
noncomputable def dt101_0 : List Nat := 27 :: 184 :: 0 :: 250 :: 153 :: 0 :: 20 :: 28 :: 184 :: 0 :: 88 :: 154 :: 0 :: 15 :: 28 :: 16 :: dt101_1
theorem dw101_0 : dn cX8_taken 0 = dt101_0 := by decide +kernel
theorem dw101_1 : dn cX8_taken 16 = dt101_1 := dn_w dw101_0 16 rfl
theorem dw101_2 : dn cX8_taken 32 = dt101_2 := dn_w dw101_1 16 rfl
theorem dw101_3 : dn cX8_taken 48 = dt101_3 := dn_w dw101_2 16 rfl
theorem dw101_4 : dn cX8_taken 64 = dt101_4 := dn_w dw101_3 16 rfl
theorem dw101_5 : dn cX8_taken 80 = dt101_5 := dn_w dw101_4 16 rfl
theorem dw101_6 : dn cX8_taken 96 = dt101_6 := dn_w dw101_5 16 rfl
theorem dX8_taken_0 : decode cX8_taken 0 = .ok (.iload_n 1, 1) := dop_27 (dn_w dw101_0 0 rfl)
theorem dX8_taken_1 : decode cX8_taken 1 = .ok (.invokestatic 250, 3) := dop_184 (dn_w dw101_0 1 rfl) rfl
theorem dX8_taken_4 : decode cX8_taken 4 = .ok (.ifCond .eq 20, 3) := dop_153 (dn_w dw101_0 4 rfl) rfl
theorem dX8_taken_7 : decode cX8_taken 7 = .ok (.iload_n 2, 1) := dop_28 (dn_w dw101_0 7 rfl)
theorem dX8_taken_8 : decode cX8_taken 8 = .ok (.invokestatic 88, 3) := dop_184 (dn_w dw101_0 8 rfl) rfl
theorem dX8_taken_11 : decode cX8_taken 11 = .ok (.ifCond .ne 15, 3) := dop_154 (dn_w dw101_0 11 rfl) rfl
theorem dX8_taken_14 : decode cX8_taken 14 = .ok (.iload_n 2, 1) := dop_28 (dn_w dw101_0 14 rfl)
theorem dX8_taken_15 : decode cX8_taken 15 = .ok (.bipush 10, 2) := dop_16 (dn_w dw101_0 15 rfl) rfl
theorem dX8_taken_17 : decode cX8_taken 17 = .ok (.isub, 1) := dop_100 (dn_w dw101_1 1 rfl)
theorem dX8_taken_18 : decode cX8_taken 18 = .ok (.invokestatic 247, 3) := dop_184 (dn_w dw101_1 2 rfl) rfl
theorem dX8_taken_21 : decode cX8_taken 21 = .ok (.ifCond .ne 5, 3) := dop_154 (dn_w dw101_1 5 rfl) rfl
theorem dX8_taken_24 : decode cX8_taken 24 = .ok (.iconst (-1), 1) := dop_2 (dn_w dw101_1 8 rfl)
theorem dX8_taken_25 : decode cX8_taken 25 = .ok (.ireturn, 1) := dop_172 (dn_w dw101_1 9 rfl)
theorem dX8_taken_26 : decode cX8_taken 26 = .ok (.aload_n 0, 1) := dop_42 (dn_w dw101_1 10 rfl)
theorem dX8_taken_27 : decode cX8_taken 27 = .ok (.getfield 52, 3) := dop_180 (dn_w dw101_1 11 rfl) rfl
theorem dX8_taken_30 : decode cX8_taken 30 = .ok (.iload_n 1, 1) := dop_27 (dn_w dw101_1 14 rfl)
theorem dX8_taken_31 : decode cX8_taken 31 = .ok (.aaload, 1) := dop_50 (dn_w dw101_1 15 rfl)
theorem dX8_taken_32 : decode cX8_taken 32 = .ok (.astore_n 3, 1) := dop_78 (dn_w dw101_2 0 rfl)
theorem dX8_taken_33 : decode cX8_taken 33 = .ok (.aload_n 3, 1) := dop_45 (dn_w dw101_2 1 rfl)
theorem dX8_taken_34 : decode cX8_taken 34 = .ok (.getfield 260, 3) := dop_180 (dn_w dw101_2 2 rfl) rfl
theorem dX8_taken_37 : decode cX8_taken 37 = .ok (.iconst 1, 1) := dop_4 (dn_w dw101_2 5 rfl)
theorem dX8_taken_38 : decode cX8_taken 38 = .ok (.if_icmp .ne 24, 3) := dop_160 (dn_w dw101_2 6 rfl) rfl
theorem dX8_taken_41 : decode cX8_taken 41 = .ok (.aload_n 3, 1) := dop_45 (dn_w dw101_2 9 rfl)
theorem dX8_taken_42 : decode cX8_taken 42 = .ok (.getfield 263, 3) := dop_180 (dn_w dw101_2 10 rfl) rfl
theorem dX8_taken_45 : decode cX8_taken 45 = .ok (.iload_n 2, 1) := dop_28 (dn_w dw101_2 13 rfl)
theorem dX8_taken_46 : decode cX8_taken 46 = .ok (.bipush 10, 2) := dop_16 (dn_w dw101_2 14 rfl) rfl
theorem dX8_taken_48 : decode cX8_taken 48 = .ok (.isub, 1) := dop_100 (dn_w dw101_3 0 rfl)
theorem dX8_taken_49 : decode cX8_taken 49 = .ok (.if_icmp .ne 10, 3) := dop_160 (dn_w dw101_3 1 rfl) rfl
theorem dX8_taken_52 : decode cX8_taken 52 = .ok (.aload_n 3, 1) := dop_45 (dn_w dw101_3 4 rfl)
theorem dX8_taken_53 : decode cX8_taken 53 = .ok (.getfield 264, 3) := dop_180 (dn_w dw101_3 5 rfl) rfl
theorem dX8_taken_56 : decode cX8_taken 56 = .ok (.goto 5, 3) := dop_167 (dn_w dw101_3 8 rfl) rfl
theorem dX8_taken_59 : decode cX8_taken 59 = .ok (.bipush (-13), 2) := dop_16 (dn_w dw101_3 11 rfl) rfl
theorem dX8_taken_61 : decode cX8_taken 61 = .ok (.ireturn, 1) := dop_172 (dn_w dw101_3 13 rfl)
theorem dX8_taken_62 : decode cX8_taken 62 = .ok (.aload_n 0, 1) := dop_42 (dn_w dw101_3 14 rfl)
theorem dX8_taken_63 : decode cX8_taken 63 = .ok (.aload_n 3, 1) := dop_45 (dn_w dw101_3 15 rfl)
theorem dX8_taken_64 : decode cX8_taken 64 = .ok (.invokevirtual 267, 3) := dop_182 (dn_w dw101_4 0 rfl) rfl
theorem dX8_taken_67 : decode cX8_taken 67 = .ok (.ifCond .ne 6, 3) := dop_154 (dn_w dw101_4 3 rfl) rfl
theorem dX8_taken_70 : decode cX8_taken 70 = .ok (.bipush (-11), 2) := dop_16 (dn_w dw101_4 6 rfl) rfl
theorem dX8_taken_72 : decode cX8_taken 72 = .ok (.ireturn, 1) := dop_172 (dn_w dw101_4 8 rfl)
theorem dX8_taken_73 : decode cX8_taken 73 = .ok (.iload_n 2, 1) := dop_28 (dn_w dw101_4 9 rfl)
theorem dX8_taken_74 : decode cX8_taken 74 = .ok (.invokestatic 88, 3) := dop_184 (dn_w dw101_4 10 rfl) rfl
theorem dX8_taken_77 : decode cX8_taken 77 = .ok (.ifCond .eq 29, 3) := dop_153 (dn_w dw101_4 13 rfl) rfl
theorem dX8_taken_80 : decode cX8_taken 80 = .ok (.aload_n 0, 1) := dop_42 (dn_w dw101_5 0 rfl)
theorem dX8_taken_81 : decode cX8_taken 81 = .ok (.getfield 10, 3) := dop_180 (dn_w dw101_5 1 rfl) rfl
theorem dX8_taken_84 : decode cX8_taken 84 = .ok (.getfield 109, 3) := dop_180 (dn_w dw101_5 4 rfl) rfl
theorem dX8_taken_87 : decode cX8_taken 87 = .ok (.aload_n 3, 1) := dop_45 (dn_w dw101_5 7 rfl)
theorem dX8_taken_88 : decode cX8_taken 88 = .ok (.getfield 264, 3) := dop_180 (dn_w dw101_5 8 rfl) rfl
theorem dX8_taken_91 : decode cX8_taken 91 = .ok (.iaload, 1) := dop_46 (dn_w dw101_5 11 rfl)
theorem dX8_taken_92 : decode cX8_taken 92 = .ok (.iload_n 2, 1) := dop_28 (dn_w dw101_5 12 rfl)
theorem dX8_taken_93 : decode cX8_taken 93 = .ok (.invokestatic 271, 3) := dop_184 (dn_w dw101_5 13 rfl) rfl
theorem dX8_taken_96 : decode cX8_taken 96 = .ok (.ifCond .eq 10, 3) := dop_153 (dn_w dw101_6 0 rfl) rfl
theorem dX8_taken_99 : decode cX8_taken 99 = .ok (.aload_n 3, 1) := dop_45 (dn_w dw101_6 3 rfl)
theorem dX8_taken_100 : decode cX8_taken 100 = .ok (.getfield 264, 3) := dop_180 (dn_w dw101_6 4 rfl) rfl
theorem dX8_taken_103 : decode cX8_taken 103 = .ok (.goto 5, 3) := dop_167 (dn_w dw101_6 7 rfl) rfl
theorem dX8_taken_106 : decode cX8_taken 106 = .ok (.bipush (-13), 2) := dop_16 (dn_w dw101_6 10 rfl) rfl
theorem dX8_taken_108 : decode cX8_taken 108 = .ok (.ireturn, 1) := dop_172 (dn_w dw101_6 12 rfl)
noncomputable def dt102_5 : List Nat := 172 :: []
noncomputable def dt102_4 : List Nat := 4 :: 42 :: 180 :: 0 :: 10 :: 180 :: 0 :: 113 :: 21 :: 4 :: 46 :: 28 :: 29 :: 182 :: 1 :: 21 :: dt102_5
noncomputable def dt102_3 : List Nat := 4 :: 42 :: 180 :: 0 :: 59 :: 42 :: 180 :: 0 :: 10 :: 180 :: 0 :: 109 :: 21 :: 4 :: 46 :: 21 :: dt102_4
noncomputable def dt102_2 : List Nat := 11 :: 154 :: 0 :: 5 :: 3 :: 172 :: 42 :: 180 :: 0 :: 52 :: 27 :: 50 :: 180 :: 1 :: 8 :: 54 :: dt102_3
noncomputable def dt102_1 : List Nat := 0 :: 21 :: 28 :: 7 :: 162 :: 0 :: 16 :: 42 :: 42 :: 180 :: 0 :: 52 :: 27 :: 50 :: 182 :: 1 :: dt102_2
noncomputable def dt102_0 : List Nat := 42 :: 180 :: 0 :: 59 :: 182 :: 1 :: 18 :: 27 :: 184 :: 0 :: 250 :: 153 :: 0 :: 25 :: 28 :: 155 :: dt102_1
theorem dw102_0 : dn cX8_act 0 = dt102_0 := by decide +kernel
theorem dw102_1 : dn cX8_act 16 = dt102_1 := dn_w dw102_0 16 rfl
theorem dw102_2 : dn cX8_act 32 = dt102_2 := dn_w dw102_1 16 rfl
theorem dw102_3 : dn cX8_act 48 = dt102_3 := dn_w dw102_2 16 rfl
theorem dw102_4 : dn cX8_act 64 = dt102_4 := dn_w dw102_3 16 rfl
theorem dw102_5 : dn cX8_act 80 = dt102_5 := dn_w dw102_4 16 rfl
theorem dX8_act_0 : decode cX8_act 0 = .ok (.aload_n 0, 1) := dop_42 (dn_w dw102_0 0 rfl)
theorem dX8_act_1 : decode cX8_act 1 = .ok (.getfield 59, 3) := dop_180 (dn_w dw102_0 1 rfl) rfl
theorem dX8_act_4 : decode cX8_act 4 = .ok (.invokevirtual 274, 3) := dop_182 (dn_w dw102_0 4 rfl) rfl
theorem dX8_act_7 : decode cX8_act 7 = .ok (.iload_n 1, 1) := dop_27 (dn_w dw102_0 7 rfl)
theorem dX8_act_8 : decode cX8_act 8 = .ok (.invokestatic 250, 3) := dop_184 (dn_w dw102_0 8 rfl) rfl
theorem dX8_act_11 : decode cX8_act 11 = .ok (.ifCond .eq 25, 3) := dop_153 (dn_w dw102_0 11 rfl) rfl
theorem dX8_act_14 : decode cX8_act 14 = .ok (.iload_n 2, 1) := dop_28 (dn_w dw102_0 14 rfl)
theorem dX8_act_15 : decode cX8_act 15 = .ok (.ifCond .lt 21, 3) := dop_155 (dn_w dw102_0 15 rfl) rfl
theorem dX8_act_18 : decode cX8_act 18 = .ok (.iload_n 2, 1) := dop_28 (dn_w dw102_1 2 rfl)
theorem dX8_act_19 : decode cX8_act 19 = .ok (.iconst 4, 1) := dop_7 (dn_w dw102_1 3 rfl)
theorem dX8_act_20 : decode cX8_act 20 = .ok (.if_icmp .ge 16, 3) := dop_162 (dn_w dw102_1 4 rfl) rfl
theorem dX8_act_23 : decode cX8_act 23 = .ok (.aload_n 0, 1) := dop_42 (dn_w dw102_1 7 rfl)
theorem dX8_act_24 : decode cX8_act 24 = .ok (.aload_n 0, 1) := dop_42 (dn_w dw102_1 8 rfl)
theorem dX8_act_25 : decode cX8_act 25 = .ok (.getfield 52, 3) := dop_180 (dn_w dw102_1 9 rfl) rfl
theorem dX8_act_28 : decode cX8_act 28 = .ok (.iload_n 1, 1) := dop_27 (dn_w dw102_1 12 rfl)
theorem dX8_act_29 : decode cX8_act 29 = .ok (.aaload, 1) := dop_50 (dn_w dw102_1 13 rfl)
theorem dX8_act_30 : decode cX8_act 30 = .ok (.invokevirtual 267, 3) := dop_182 (dn_w dw102_1 14 rfl) rfl
theorem dX8_act_33 : decode cX8_act 33 = .ok (.ifCond .ne 5, 3) := dop_154 (dn_w dw102_2 1 rfl) rfl
theorem dX8_act_36 : decode cX8_act 36 = .ok (.iconst 0, 1) := dop_3 (dn_w dw102_2 4 rfl)
theorem dX8_act_37 : decode cX8_act 37 = .ok (.ireturn, 1) := dop_172 (dn_w dw102_2 5 rfl)
theorem dX8_act_38 : decode cX8_act 38 = .ok (.aload_n 0, 1) := dop_42 (dn_w dw102_2 6 rfl)
theorem dX8_act_39 : decode cX8_act 39 = .ok (.getfield 52, 3) := dop_180 (dn_w dw102_2 7 rfl) rfl
theorem dX8_act_42 : decode cX8_act 42 = .ok (.iload_n 1, 1) := dop_27 (dn_w dw102_2 10 rfl)
theorem dX8_act_43 : decode cX8_act 43 = .ok (.aaload, 1) := dop_50 (dn_w dw102_2 11 rfl)
theorem dX8_act_44 : decode cX8_act 44 = .ok (.getfield 264, 3) := dop_180 (dn_w dw102_2 12 rfl) rfl
theorem dX8_act_47 : decode cX8_act 47 = .ok (.istore 4, 2) := dop_54 (dn_w dw102_2 15 rfl)
theorem dX8_act_49 : decode cX8_act 49 = .ok (.aload_n 0, 1) := dop_42 (dn_w dw102_3 1 rfl)
theorem dX8_act_50 : decode cX8_act 50 = .ok (.getfield 59, 3) := dop_180 (dn_w dw102_3 2 rfl) rfl
theorem dX8_act_53 : decode cX8_act 53 = .ok (.aload_n 0, 1) := dop_42 (dn_w dw102_3 5 rfl)
theorem dX8_act_54 : decode cX8_act 54 = .ok (.getfield 10, 3) := dop_180 (dn_w dw102_3 6 rfl) rfl
theorem dX8_act_57 : decode cX8_act 57 = .ok (.getfield 109, 3) := dop_180 (dn_w dw102_3 9 rfl) rfl
theorem dX8_act_60 : decode cX8_act 60 = .ok (.iload 4, 2) := dop_21 (dn_w dw102_3 12 rfl)
theorem dX8_act_62 : decode cX8_act 62 = .ok (.iaload, 1) := dop_46 (dn_w dw102_3 14 rfl)
theorem dX8_act_63 : decode cX8_act 63 = .ok (.iload 4, 2) := dop_21 (dn_w dw102_3 15 rfl)
theorem dX8_act_65 : decode cX8_act 65 = .ok (.aload_n 0, 1) := dop_42 (dn_w dw102_4 1 rfl)
theorem dX8_act_66 : decode cX8_act 66 = .ok (.getfield 10, 3) := dop_180 (dn_w dw102_4 2 rfl) rfl
theorem dX8_act_69 : decode cX8_act 69 = .ok (.getfield 113, 3) := dop_180 (dn_w dw102_4 5 rfl) rfl
theorem dX8_act_72 : decode cX8_act 72 = .ok (.iload 4, 2) := dop_21 (dn_w dw102_4 8 rfl)
theorem dX8_act_74 : decode cX8_act 74 = .ok (.iaload, 1) := dop_46 (dn_w dw102_4 10 rfl)
theorem dX8_act_75 : decode cX8_act 75 = .ok (.iload_n 2, 1) := dop_28 (dn_w dw102_4 11 rfl)
theorem dX8_act_76 : decode cX8_act 76 = .ok (.iload_n 3, 1) := dop_29 (dn_w dw102_4 12 rfl)
theorem dX8_act_77 : decode cX8_act 77 = .ok (.invokevirtual 277, 3) := dop_182 (dn_w dw102_4 13 rfl) rfl
theorem dX8_act_80 : decode cX8_act 80 = .ok (.ireturn, 1) := dop_172 (dn_w dw102_5 0 rfl)
noncomputable def dt103_1 : List Nat := 180 :: 0 :: 59 :: 180 :: 1 :: 28 :: 27 :: 46 :: 167 :: 0 :: 5 :: 16 :: 253 :: 172 :: []
noncomputable def dt103_0 : List Nat := 27 :: 155 :: 0 :: 26 :: 27 :: 42 :: 180 :: 0 :: 59 :: 180 :: 1 :: 25 :: 162 :: 0 :: 15 :: 42 :: dt103_1
theorem dw103_0 : dn cX8_trace 0 = dt103_0 := by decide +kernel
theorem dw103_1 : dn cX8_trace 16 = dt103_1 := dn_w dw103_0 16 rfl
theorem dX8_trace_0 : decode cX8_trace 0 = .ok (.iload_n 1, 1) := dop_27 (dn_w dw103_0 0 rfl)
theorem dX8_trace_1 : decode cX8_trace 1 = .ok (.ifCond .lt 26, 3) := dop_155 (dn_w dw103_0 1 rfl) rfl
theorem dX8_trace_4 : decode cX8_trace 4 = .ok (.iload_n 1, 1) := dop_27 (dn_w dw103_0 4 rfl)
theorem dX8_trace_5 : decode cX8_trace 5 = .ok (.aload_n 0, 1) := dop_42 (dn_w dw103_0 5 rfl)
theorem dX8_trace_6 : decode cX8_trace 6 = .ok (.getfield 59, 3) := dop_180 (dn_w dw103_0 6 rfl) rfl
theorem dX8_trace_9 : decode cX8_trace 9 = .ok (.getfield 281, 3) := dop_180 (dn_w dw103_0 9 rfl) rfl
theorem dX8_trace_12 : decode cX8_trace 12 = .ok (.if_icmp .ge 15, 3) := dop_162 (dn_w dw103_0 12 rfl) rfl
theorem dX8_trace_15 : decode cX8_trace 15 = .ok (.aload_n 0, 1) := dop_42 (dn_w dw103_0 15 rfl)
theorem dX8_trace_16 : decode cX8_trace 16 = .ok (.getfield 59, 3) := dop_180 (dn_w dw103_1 0 rfl) rfl
theorem dX8_trace_19 : decode cX8_trace 19 = .ok (.getfield 284, 3) := dop_180 (dn_w dw103_1 3 rfl) rfl
theorem dX8_trace_22 : decode cX8_trace 22 = .ok (.iload_n 1, 1) := dop_27 (dn_w dw103_1 6 rfl)
theorem dX8_trace_23 : decode cX8_trace 23 = .ok (.iaload, 1) := dop_46 (dn_w dw103_1 7 rfl)
theorem dX8_trace_24 : decode cX8_trace 24 = .ok (.goto 5, 3) := dop_167 (dn_w dw103_1 8 rfl) rfl
theorem dX8_trace_27 : decode cX8_trace 27 = .ok (.bipush (-3), 2) := dop_16 (dn_w dw103_1 11 rfl) rfl
theorem dX8_trace_29 : decode cX8_trace 29 = .ok (.ireturn, 1) := dop_172 (dn_w dw103_1 13 rfl)
noncomputable def dt104_4 : List Nat := 180 :: 0 :: 69 :: 172 :: 42 :: 180 :: 0 :: 59 :: 180 :: 1 :: 25 :: 172 :: 2 :: 172 :: []
noncomputable def dt104_3 : List Nat := 182 :: 1 :: 31 :: 172 :: 42 :: 180 :: 0 :: 40 :: 180 :: 0 :: 84 :: 172 :: 42 :: 180 :: 0 :: 33 :: dt104_4
noncomputable def dt104_2 : List Nat := 0 :: 0 :: 0 :: 67 :: 42 :: 180 :: 0 :: 10 :: 180 :: 0 :: 87 :: 172 :: 42 :: 180 :: 0 :: 10 :: dt104_3
noncomputable def dt104_1 : List Nat := 0 :: 0 :: 0 :: 35 :: 0 :: 0 :: 0 :: 43 :: 0 :: 0 :: 0 :: 51 :: 0 :: 0 :: 0 :: 59 :: dt104_2
noncomputable def dt104_0 : List Nat := 27 :: 170 :: 0 :: 0 :: 0 :: 0 :: 0 :: 75 :: 0 :: 0 :: 0 :: 0 :: 0 :: 0 :: 0 :: 4 :: dt104_1
theorem dw104_0 : dn cX8_many 0 = dt104_0 := by decide +kernel
theorem dw104_1 : dn cX8_many 16 = dt104_1 := dn_w dw104_0 16 rfl
theorem dw104_2 : dn cX8_many 32 = dt104_2 := dn_w dw104_1 16 rfl
theorem dw104_3 : dn cX8_many 48 = dt104_3 := dn_w dw104_2 16 rfl
theorem dw104_4 : dn cX8_many 64 = dt104_4 := dn_w dw104_3 16 rfl
theorem dX8_many_0 : decode cX8_many 0 = .ok (.iload_n 1, 1) := dop_27 (dn_w dw104_0 0 rfl)
theorem dX8_many_1 : decode cX8_many 1 = .ok (.tableswitch 75 0 4 #[35, 43, 51, 59, 67], 35) := by decide +kernel
theorem dX8_many_36 : decode cX8_many 36 = .ok (.aload_n 0, 1) := dop_42 (dn_w dw104_2 4 rfl)
theorem dX8_many_37 : decode cX8_many 37 = .ok (.getfield 10, 3) := dop_180 (dn_w dw104_2 5 rfl) rfl
theorem dX8_many_40 : decode cX8_many 40 = .ok (.getfield 87, 3) := dop_180 (dn_w dw104_2 8 rfl) rfl
theorem dX8_many_43 : decode cX8_many 43 = .ok (.ireturn, 1) := dop_172 (dn_w dw104_2 11 rfl)
theorem dX8_many_44 : decode cX8_many 44 = .ok (.aload_n 0, 1) := dop_42 (dn_w dw104_2 12 rfl)
theorem dX8_many_45 : decode cX8_many 45 = .ok (.getfield 10, 3) := dop_180 (dn_w dw104_2 13 rfl) rfl
theorem dX8_many_48 : decode cX8_many 48 = .ok (.invokevirtual 287, 3) := dop_182 (dn_w dw104_3 0 rfl) rfl
theorem dX8_many_51 : decode cX8_many 51 = .ok (.ireturn, 1) := dop_172 (dn_w dw104_3 3 rfl)
theorem dX8_many_52 : decode cX8_many 52 = .ok (.aload_n 0, 1) := dop_42 (dn_w dw104_3 4 rfl)
theorem dX8_many_53 : decode cX8_many 53 = .ok (.getfield 40, 3) := dop_180 (dn_w dw104_3 5 rfl) rfl
theorem dX8_many_56 : decode cX8_many 56 = .ok (.getfield 84, 3) := dop_180 (dn_w dw104_3 8 rfl) rfl
theorem dX8_many_59 : decode cX8_many 59 = .ok (.ireturn, 1) := dop_172 (dn_w dw104_3 11 rfl)
theorem dX8_many_60 : decode cX8_many 60 = .ok (.aload_n 0, 1) := dop_42 (dn_w dw104_3 12 rfl)
theorem dX8_many_61 : decode cX8_many 61 = .ok (.getfield 33, 3) := dop_180 (dn_w dw104_3 13 rfl) rfl
theorem dX8_many_64 : decode cX8_many 64 = .ok (.getfield 69, 3) := dop_180 (dn_w dw104_4 0 rfl) rfl
theorem dX8_many_67 : decode cX8_many 67 = .ok (.ireturn, 1) := dop_172 (dn_w dw104_4 3 rfl)
theorem dX8_many_68 : decode cX8_many 68 = .ok (.aload_n 0, 1) := dop_42 (dn_w dw104_4 4 rfl)
theorem dX8_many_69 : decode cX8_many 69 = .ok (.getfield 59, 3) := dop_180 (dn_w dw104_4 5 rfl) rfl
theorem dX8_many_72 : decode cX8_many 72 = .ok (.getfield 281, 3) := dop_180 (dn_w dw104_4 8 rfl) rfl
theorem dX8_many_75 : decode cX8_many 75 = .ok (.ireturn, 1) := dop_172 (dn_w dw104_4 11 rfl)
theorem dX8_many_76 : decode cX8_many 76 = .ok (.iconst (-1), 1) := dop_2 (dn_w dw104_4 12 rfl)
theorem dX8_many_77 : decode cX8_many 77 = .ok (.ireturn, 1) := dop_172 (dn_w dw104_4 13 rfl)
noncomputable def dt105_1 : List Nat := 4 :: 172 :: []
noncomputable def dt105_0 : List Nat := 42 :: 180 :: 0 :: 16 :: 42 :: 180 :: 0 :: 10 :: 182 :: 0 :: 80 :: 42 :: 4 :: 181 :: 0 :: 19 :: dt105_1
theorem dw105_0 : dn cX8_keep 0 = dt105_0 := by decide +kernel
theorem dw105_1 : dn cX8_keep 16 = dt105_1 := dn_w dw105_0 16 rfl
theorem dX8_keep_0 : decode cX8_keep 0 = .ok (.aload_n 0, 1) := dop_42 (dn_w dw105_0 0 rfl)
theorem dX8_keep_1 : decode cX8_keep 1 = .ok (.getfield 16, 3) := dop_180 (dn_w dw105_0 1 rfl) rfl
theorem dX8_keep_4 : decode cX8_keep 4 = .ok (.aload_n 0, 1) := dop_42 (dn_w dw105_0 4 rfl)
theorem dX8_keep_5 : decode cX8_keep 5 = .ok (.getfield 10, 3) := dop_180 (dn_w dw105_0 5 rfl) rfl
theorem dX8_keep_8 : decode cX8_keep 8 = .ok (.invokevirtual 80, 3) := dop_182 (dn_w dw105_0 8 rfl) rfl
theorem dX8_keep_11 : decode cX8_keep 11 = .ok (.aload_n 0, 1) := dop_42 (dn_w dw105_0 11 rfl)
theorem dX8_keep_12 : decode cX8_keep 12 = .ok (.iconst 1, 1) := dop_4 (dn_w dw105_0 12 rfl)
theorem dX8_keep_13 : decode cX8_keep 13 = .ok (.putfield 19, 3) := dop_181 (dn_w dw105_0 13 rfl) rfl
theorem dX8_keep_16 : decode cX8_keep 16 = .ok (.iconst 1, 1) := dop_4 (dn_w dw105_1 0 rfl)
theorem dX8_keep_17 : decode cX8_keep 17 = .ok (.ireturn, 1) := dop_172 (dn_w dw105_1 1 rfl)
noncomputable def dt106_1 : List Nat := 0 :: 16 :: 182 :: 0 :: 80 :: 42 :: 180 :: 0 :: 10 :: 180 :: 0 :: 140 :: 172 :: []
noncomputable def dt106_0 : List Nat := 42 :: 180 :: 0 :: 19 :: 154 :: 0 :: 6 :: 16 :: 253 :: 172 :: 42 :: 180 :: 0 :: 10 :: 42 :: 180 :: dt106_1
theorem dw106_0 : dn cX8_again 0 = dt106_0 := by decide +kernel
theorem dw106_1 : dn cX8_again 16 = dt106_1 := dn_w dw106_0 16 rfl
theorem dX8_again_0 : decode cX8_again 0 = .ok (.aload_n 0, 1) := dop_42 (dn_w dw106_0 0 rfl)
theorem dX8_again_1 : decode cX8_again 1 = .ok (.getfield 19, 3) := dop_180 (dn_w dw106_0 1 rfl) rfl
theorem dX8_again_4 : decode cX8_again 4 = .ok (.ifCond .ne 6, 3) := dop_154 (dn_w dw106_0 4 rfl) rfl
theorem dX8_again_7 : decode cX8_again 7 = .ok (.bipush (-3), 2) := dop_16 (dn_w dw106_0 7 rfl) rfl
theorem dX8_again_9 : decode cX8_again 9 = .ok (.ireturn, 1) := dop_172 (dn_w dw106_0 9 rfl)
theorem dX8_again_10 : decode cX8_again 10 = .ok (.aload_n 0, 1) := dop_42 (dn_w dw106_0 10 rfl)
theorem dX8_again_11 : decode cX8_again 11 = .ok (.getfield 10, 3) := dop_180 (dn_w dw106_0 11 rfl) rfl
theorem dX8_again_14 : decode cX8_again 14 = .ok (.aload_n 0, 1) := dop_42 (dn_w dw106_0 14 rfl)
theorem dX8_again_15 : decode cX8_again 15 = .ok (.getfield 16, 3) := dop_180 (dn_w dw106_0 15 rfl) rfl
theorem dX8_again_18 : decode cX8_again 18 = .ok (.invokevirtual 80, 3) := dop_182 (dn_w dw106_1 2 rfl) rfl
theorem dX8_again_21 : decode cX8_again 21 = .ok (.aload_n 0, 1) := dop_42 (dn_w dw106_1 5 rfl)
theorem dX8_again_22 : decode cX8_again 22 = .ok (.getfield 10, 3) := dop_180 (dn_w dw106_1 6 rfl) rfl
theorem dX8_again_25 : decode cX8_again 25 = .ok (.getfield 140, 3) := dop_180 (dn_w dw106_1 9 rfl) rfl
theorem dX8_again_28 : decode cX8_again 28 = .ok (.ireturn, 1) := dop_172 (dn_w dw106_1 12 rfl)
noncomputable def dt107_0 : List Nat := 26 :: 155 :: 0 :: 13 :: 26 :: 16 :: 6 :: 162 :: 0 :: 7 :: 4 :: 167 :: 0 :: 4 :: 3 :: 172 :: []
theorem dw107_0 : dn cX8_isKind 0 = dt107_0 := by decide +kernel
theorem dX8_isKind_0 : decode cX8_isKind 0 = .ok (.iload_n 0, 1) := dop_26 (dn_w dw107_0 0 rfl)
theorem dX8_isKind_1 : decode cX8_isKind 1 = .ok (.ifCond .lt 13, 3) := dop_155 (dn_w dw107_0 1 rfl) rfl
theorem dX8_isKind_4 : decode cX8_isKind 4 = .ok (.iload_n 0, 1) := dop_26 (dn_w dw107_0 4 rfl)
theorem dX8_isKind_5 : decode cX8_isKind 5 = .ok (.bipush 6, 2) := dop_16 (dn_w dw107_0 5 rfl) rfl
theorem dX8_isKind_7 : decode cX8_isKind 7 = .ok (.if_icmp .ge 7, 3) := dop_162 (dn_w dw107_0 7 rfl) rfl
theorem dX8_isKind_10 : decode cX8_isKind 10 = .ok (.iconst 1, 1) := dop_4 (dn_w dw107_0 10 rfl)
theorem dX8_isKind_11 : decode cX8_isKind 11 = .ok (.goto 4, 3) := dop_167 (dn_w dw107_0 11 rfl) rfl
theorem dX8_isKind_14 : decode cX8_isKind 14 = .ok (.iconst 0, 1) := dop_3 (dn_w dw107_0 14 rfl)
theorem dX8_isKind_15 : decode cX8_isKind 15 = .ok (.ireturn, 1) := dop_172 (dn_w dw107_0 15 rfl)
noncomputable def dt108_0 : List Nat := 26 :: 155 :: 0 :: 13 :: 26 :: 16 :: 9 :: 163 :: 0 :: 7 :: 4 :: 167 :: 0 :: 4 :: 3 :: 172 :: []
theorem dw108_0 : dn cX8_isA 0 = dt108_0 := by decide +kernel
theorem dX8_isA_0 : decode cX8_isA 0 = .ok (.iload_n 0, 1) := dop_26 (dn_w dw108_0 0 rfl)
theorem dX8_isA_1 : decode cX8_isA 1 = .ok (.ifCond .lt 13, 3) := dop_155 (dn_w dw108_0 1 rfl) rfl
theorem dX8_isA_4 : decode cX8_isA 4 = .ok (.iload_n 0, 1) := dop_26 (dn_w dw108_0 4 rfl)
theorem dX8_isA_5 : decode cX8_isA 5 = .ok (.bipush 9, 2) := dop_16 (dn_w dw108_0 5 rfl) rfl
theorem dX8_isA_7 : decode cX8_isA 7 = .ok (.if_icmp .gt 7, 3) := dop_163 (dn_w dw108_0 7 rfl) rfl
theorem dX8_isA_10 : decode cX8_isA 10 = .ok (.iconst 1, 1) := dop_4 (dn_w dw108_0 10 rfl)
theorem dX8_isA_11 : decode cX8_isA 11 = .ok (.goto 4, 3) := dop_167 (dn_w dw108_0 11 rfl) rfl
theorem dX8_isA_14 : decode cX8_isA 14 = .ok (.iconst 0, 1) := dop_3 (dn_w dw108_0 14 rfl)
theorem dX8_isA_15 : decode cX8_isA 15 = .ok (.ireturn, 1) := dop_172 (dn_w dw108_0 15 rfl)
noncomputable def dt109_0 : List Nat := 26 :: 155 :: 0 :: 13 :: 26 :: 16 :: 6 :: 162 :: 0 :: 7 :: 4 :: 167 :: 0 :: 4 :: 3 :: 172 :: []
theorem dw109_0 : dn cX8_isHouse 0 = dt109_0 := by decide +kernel
theorem dX8_isHouse_0 : decode cX8_isHouse 0 = .ok (.iload_n 0, 1) := dop_26 (dn_w dw109_0 0 rfl)
theorem dX8_isHouse_1 : decode cX8_isHouse 1 = .ok (.ifCond .lt 13, 3) := dop_155 (dn_w dw109_0 1 rfl) rfl
theorem dX8_isHouse_4 : decode cX8_isHouse 4 = .ok (.iload_n 0, 1) := dop_26 (dn_w dw109_0 4 rfl)
theorem dX8_isHouse_5 : decode cX8_isHouse 5 = .ok (.bipush 6, 2) := dop_16 (dn_w dw109_0 5 rfl) rfl
theorem dX8_isHouse_7 : decode cX8_isHouse 7 = .ok (.if_icmp .ge 7, 3) := dop_162 (dn_w dw109_0 7 rfl) rfl
theorem dX8_isHouse_10 : decode cX8_isHouse 10 = .ok (.iconst 1, 1) := dop_4 (dn_w dw109_0 10 rfl)
theorem dX8_isHouse_11 : decode cX8_isHouse 11 = .ok (.goto 4, 3) := dop_167 (dn_w dw109_0 11 rfl) rfl
theorem dX8_isHouse_14 : decode cX8_isHouse 14 = .ok (.iconst 0, 1) := dop_3 (dn_w dw109_0 14 rfl)
theorem dX8_isHouse_15 : decode cX8_isHouse 15 = .ok (.ireturn, 1) := dop_172 (dn_w dw109_0 15 rfl)
noncomputable def dt110_0 : List Nat := 26 :: 155 :: 0 :: 13 :: 26 :: 16 :: 40 :: 162 :: 0 :: 7 :: 4 :: 167 :: 0 :: 4 :: 3 :: 172 :: []
theorem dw110_0 : dn cX8_isDay 0 = dt110_0 := by decide +kernel
theorem dX8_isDay_0 : decode cX8_isDay 0 = .ok (.iload_n 0, 1) := dop_26 (dn_w dw110_0 0 rfl)
theorem dX8_isDay_1 : decode cX8_isDay 1 = .ok (.ifCond .lt 13, 3) := dop_155 (dn_w dw110_0 1 rfl) rfl
theorem dX8_isDay_4 : decode cX8_isDay 4 = .ok (.iload_n 0, 1) := dop_26 (dn_w dw110_0 4 rfl)
theorem dX8_isDay_5 : decode cX8_isDay 5 = .ok (.bipush 40, 2) := dop_16 (dn_w dw110_0 5 rfl) rfl
theorem dX8_isDay_7 : decode cX8_isDay 7 = .ok (.if_icmp .ge 7, 3) := dop_162 (dn_w dw110_0 7 rfl) rfl
theorem dX8_isDay_10 : decode cX8_isDay 10 = .ok (.iconst 1, 1) := dop_4 (dn_w dw110_0 10 rfl)
theorem dX8_isDay_11 : decode cX8_isDay 11 = .ok (.goto 4, 3) := dop_167 (dn_w dw110_0 11 rfl) rfl
theorem dX8_isDay_14 : decode cX8_isDay 14 = .ok (.iconst 0, 1) := dop_3 (dn_w dw110_0 14 rfl)
theorem dX8_isDay_15 : decode cX8_isDay 15 = .ok (.ireturn, 1) := dop_172 (dn_w dw110_0 15 rfl)
noncomputable def dt111_0 : List Nat := 26 :: 155 :: 0 :: 13 :: 26 :: 16 :: 20 :: 163 :: 0 :: 7 :: 4 :: 167 :: 0 :: 4 :: 3 :: 172 :: []
theorem dw111_0 : dn cX8_isTrial 0 = dt111_0 := by decide +kernel
theorem dX8_isTrial_0 : decode cX8_isTrial 0 = .ok (.iload_n 0, 1) := dop_26 (dn_w dw111_0 0 rfl)
theorem dX8_isTrial_1 : decode cX8_isTrial 1 = .ok (.ifCond .lt 13, 3) := dop_155 (dn_w dw111_0 1 rfl) rfl
theorem dX8_isTrial_4 : decode cX8_isTrial 4 = .ok (.iload_n 0, 1) := dop_26 (dn_w dw111_0 4 rfl)
theorem dX8_isTrial_5 : decode cX8_isTrial 5 = .ok (.bipush 20, 2) := dop_16 (dn_w dw111_0 5 rfl) rfl
theorem dX8_isTrial_7 : decode cX8_isTrial 7 = .ok (.if_icmp .gt 7, 3) := dop_163 (dn_w dw111_0 7 rfl) rfl
theorem dX8_isTrial_10 : decode cX8_isTrial 10 = .ok (.iconst 1, 1) := dop_4 (dn_w dw111_0 10 rfl)
theorem dX8_isTrial_11 : decode cX8_isTrial 11 = .ok (.goto 4, 3) := dop_167 (dn_w dw111_0 11 rfl) rfl
theorem dX8_isTrial_14 : decode cX8_isTrial 14 = .ok (.iconst 0, 1) := dop_3 (dn_w dw111_0 14 rfl)
theorem dX8_isTrial_15 : decode cX8_isTrial 15 = .ok (.ireturn, 1) := dop_172 (dn_w dw111_0 15 rfl)
noncomputable def dt112_0 : List Nat := 26 :: 155 :: 0 :: 12 :: 26 :: 7 :: 162 :: 0 :: 7 :: 4 :: 167 :: 0 :: 4 :: 3 :: 172 :: []
theorem dw112_0 : dn cX8_isSheet 0 = dt112_0 := by decide +kernel
theorem dX8_isSheet_0 : decode cX8_isSheet 0 = .ok (.iload_n 0, 1) := dop_26 (dn_w dw112_0 0 rfl)
theorem dX8_isSheet_1 : decode cX8_isSheet 1 = .ok (.ifCond .lt 12, 3) := dop_155 (dn_w dw112_0 1 rfl) rfl
theorem dX8_isSheet_4 : decode cX8_isSheet 4 = .ok (.iload_n 0, 1) := dop_26 (dn_w dw112_0 4 rfl)
theorem dX8_isSheet_5 : decode cX8_isSheet 5 = .ok (.iconst 4, 1) := dop_7 (dn_w dw112_0 5 rfl)
theorem dX8_isSheet_6 : decode cX8_isSheet 6 = .ok (.if_icmp .ge 7, 3) := dop_162 (dn_w dw112_0 6 rfl) rfl
theorem dX8_isSheet_9 : decode cX8_isSheet 9 = .ok (.iconst 1, 1) := dop_4 (dn_w dw112_0 9 rfl)
theorem dX8_isSheet_10 : decode cX8_isSheet 10 = .ok (.goto 4, 3) := dop_167 (dn_w dw112_0 10 rfl) rfl
theorem dX8_isSheet_13 : decode cX8_isSheet 13 = .ok (.iconst 0, 1) := dop_3 (dn_w dw112_0 13 rfl)
theorem dX8_isSheet_14 : decode cX8_isSheet 14 = .ok (.ireturn, 1) := dop_172 (dn_w dw112_0 14 rfl)
noncomputable def dt113_0 : List Nat := 26 :: 155 :: 0 :: 12 :: 26 :: 7 :: 162 :: 0 :: 7 :: 4 :: 167 :: 0 :: 4 :: 3 :: 172 :: []
theorem dw113_0 : dn cX8_isShelf 0 = dt113_0 := by decide +kernel
theorem dX8_isShelf_0 : decode cX8_isShelf 0 = .ok (.iload_n 0, 1) := dop_26 (dn_w dw113_0 0 rfl)
theorem dX8_isShelf_1 : decode cX8_isShelf 1 = .ok (.ifCond .lt 12, 3) := dop_155 (dn_w dw113_0 1 rfl) rfl
theorem dX8_isShelf_4 : decode cX8_isShelf 4 = .ok (.iload_n 0, 1) := dop_26 (dn_w dw113_0 4 rfl)
theorem dX8_isShelf_5 : decode cX8_isShelf 5 = .ok (.iconst 4, 1) := dop_7 (dn_w dw113_0 5 rfl)
theorem dX8_isShelf_6 : decode cX8_isShelf 6 = .ok (.if_icmp .ge 7, 3) := dop_162 (dn_w dw113_0 6 rfl) rfl
theorem dX8_isShelf_9 : decode cX8_isShelf 9 = .ok (.iconst 1, 1) := dop_4 (dn_w dw113_0 9 rfl)
theorem dX8_isShelf_10 : decode cX8_isShelf 10 = .ok (.goto 4, 3) := dop_167 (dn_w dw113_0 10 rfl) rfl
theorem dX8_isShelf_13 : decode cX8_isShelf 13 = .ok (.iconst 0, 1) := dop_3 (dn_w dw113_0 13 rfl)
theorem dX8_isShelf_14 : decode cX8_isShelf 14 = .ok (.ireturn, 1) := dop_172 (dn_w dw113_0 14 rfl)
noncomputable def dt114_0 : List Nat := 26 :: 155 :: 0 :: 12 :: 26 :: 7 :: 162 :: 0 :: 7 :: 4 :: 167 :: 0 :: 4 :: 3 :: 172 :: []
theorem dw114_0 : dn cX8_isSort 0 = dt114_0 := by decide +kernel
theorem dX8_isSort_0 : decode cX8_isSort 0 = .ok (.iload_n 0, 1) := dop_26 (dn_w dw114_0 0 rfl)
theorem dX8_isSort_1 : decode cX8_isSort 1 = .ok (.ifCond .lt 12, 3) := dop_155 (dn_w dw114_0 1 rfl) rfl
theorem dX8_isSort_4 : decode cX8_isSort 4 = .ok (.iload_n 0, 1) := dop_26 (dn_w dw114_0 4 rfl)
theorem dX8_isSort_5 : decode cX8_isSort 5 = .ok (.iconst 4, 1) := dop_7 (dn_w dw114_0 5 rfl)
theorem dX8_isSort_6 : decode cX8_isSort 6 = .ok (.if_icmp .ge 7, 3) := dop_162 (dn_w dw114_0 6 rfl) rfl
theorem dX8_isSort_9 : decode cX8_isSort 9 = .ok (.iconst 1, 1) := dop_4 (dn_w dw114_0 9 rfl)
theorem dX8_isSort_10 : decode cX8_isSort 10 = .ok (.goto 4, 3) := dop_167 (dn_w dw114_0 10 rfl) rfl
theorem dX8_isSort_13 : decode cX8_isSort 13 = .ok (.iconst 0, 1) := dop_3 (dn_w dw114_0 13 rfl)
theorem dX8_isSort_14 : decode cX8_isSort 14 = .ok (.ireturn, 1) := dop_172 (dn_w dw114_0 14 rfl)
noncomputable def dt115_2 : List Nat := 167 :: 255 :: 228 :: 3 :: 172 :: []
noncomputable def dt115_1 : List Nat := 28 :: 27 :: 160 :: 0 :: 5 :: 4 :: 172 :: 178 :: 1 :: 34 :: 28 :: 46 :: 61 :: 132 :: 3 :: 1 :: dt115_2
noncomputable def dt115_0 : List Nat := 26 :: 61 :: 3 :: 62 :: 29 :: 6 :: 162 :: 0 :: 29 :: 28 :: 184 :: 0 :: 88 :: 153 :: 0 :: 22 :: dt115_1
theorem dw115_0 : dn cX8_isUnder 0 = dt115_0 := by decide +kernel
theorem dw115_1 : dn cX8_isUnder 16 = dt115_1 := dn_w dw115_0 16 rfl
theorem dw115_2 : dn cX8_isUnder 32 = dt115_2 := dn_w dw115_1 16 rfl
theorem dX8_isUnder_0 : decode cX8_isUnder 0 = .ok (.iload_n 0, 1) := dop_26 (dn_w dw115_0 0 rfl)
theorem dX8_isUnder_1 : decode cX8_isUnder 1 = .ok (.istore_n 2, 1) := dop_61 (dn_w dw115_0 1 rfl)
theorem dX8_isUnder_2 : decode cX8_isUnder 2 = .ok (.iconst 0, 1) := dop_3 (dn_w dw115_0 2 rfl)
theorem dX8_isUnder_3 : decode cX8_isUnder 3 = .ok (.istore_n 3, 1) := dop_62 (dn_w dw115_0 3 rfl)
theorem dX8_isUnder_4 : decode cX8_isUnder 4 = .ok (.iload_n 3, 1) := dop_29 (dn_w dw115_0 4 rfl)
theorem dX8_isUnder_5 : decode cX8_isUnder 5 = .ok (.iconst 3, 1) := dop_6 (dn_w dw115_0 5 rfl)
theorem dX8_isUnder_6 : decode cX8_isUnder 6 = .ok (.if_icmp .ge 29, 3) := dop_162 (dn_w dw115_0 6 rfl) rfl
theorem dX8_isUnder_9 : decode cX8_isUnder 9 = .ok (.iload_n 2, 1) := dop_28 (dn_w dw115_0 9 rfl)
theorem dX8_isUnder_10 : decode cX8_isUnder 10 = .ok (.invokestatic 88, 3) := dop_184 (dn_w dw115_0 10 rfl) rfl
theorem dX8_isUnder_13 : decode cX8_isUnder 13 = .ok (.ifCond .eq 22, 3) := dop_153 (dn_w dw115_0 13 rfl) rfl
theorem dX8_isUnder_16 : decode cX8_isUnder 16 = .ok (.iload_n 2, 1) := dop_28 (dn_w dw115_1 0 rfl)
theorem dX8_isUnder_17 : decode cX8_isUnder 17 = .ok (.iload_n 1, 1) := dop_27 (dn_w dw115_1 1 rfl)
theorem dX8_isUnder_18 : decode cX8_isUnder 18 = .ok (.if_icmp .ne 5, 3) := dop_160 (dn_w dw115_1 2 rfl) rfl
theorem dX8_isUnder_21 : decode cX8_isUnder 21 = .ok (.iconst 1, 1) := dop_4 (dn_w dw115_1 5 rfl)
theorem dX8_isUnder_22 : decode cX8_isUnder 22 = .ok (.ireturn, 1) := dop_172 (dn_w dw115_1 6 rfl)
theorem dX8_isUnder_23 : decode cX8_isUnder 23 = .ok (.getstatic 290, 3) := dop_178 (dn_w dw115_1 7 rfl) rfl
theorem dX8_isUnder_26 : decode cX8_isUnder 26 = .ok (.iload_n 2, 1) := dop_28 (dn_w dw115_1 10 rfl)
theorem dX8_isUnder_27 : decode cX8_isUnder 27 = .ok (.iaload, 1) := dop_46 (dn_w dw115_1 11 rfl)
theorem dX8_isUnder_28 : decode cX8_isUnder 28 = .ok (.istore_n 2, 1) := dop_61 (dn_w dw115_1 12 rfl)
theorem dX8_isUnder_29 : decode cX8_isUnder 29 = .ok (.iinc 3 1, 3) := dop_132 (dn_w dw115_1 13 rfl) rfl
theorem dX8_isUnder_32 : decode cX8_isUnder 32 = .ok (.goto (-28), 3) := dop_167 (dn_w dw115_2 0 rfl) rfl
theorem dX8_isUnder_35 : decode cX8_isUnder 35 = .ok (.iconst 0, 1) := dop_3 (dn_w dw115_2 3 rfl)
theorem dX8_isUnder_36 : decode cX8_isUnder 36 = .ok (.ireturn, 1) := dop_172 (dn_w dw115_2 4 rfl)
noncomputable def dt116_1 : List Nat := 0 :: 102 :: 153 :: 0 :: 7 :: 4 :: 167 :: 0 :: 4 :: 3 :: 172 :: []
noncomputable def dt116_0 : List Nat := 43 :: 180 :: 1 :: 4 :: 154 :: 0 :: 21 :: 42 :: 180 :: 0 :: 10 :: 43 :: 180 :: 1 :: 8 :: 182 :: dt116_1
theorem dw116_0 : dn cX8_holdsChild 0 = dt116_0 := by decide +kernel
theorem dw116_1 : dn cX8_holdsChild 16 = dt116_1 := dn_w dw116_0 16 rfl
theorem dX8_holdsChild_0 : decode cX8_holdsChild 0 = .ok (.aload_n 1, 1) := dop_43 (dn_w dw116_0 0 rfl)
theorem dX8_holdsChild_1 : decode cX8_holdsChild 1 = .ok (.getfield 260, 3) := dop_180 (dn_w dw116_0 1 rfl) rfl
theorem dX8_holdsChild_4 : decode cX8_holdsChild 4 = .ok (.ifCond .ne 21, 3) := dop_154 (dn_w dw116_0 4 rfl) rfl
theorem dX8_holdsChild_7 : decode cX8_holdsChild 7 = .ok (.aload_n 0, 1) := dop_42 (dn_w dw116_0 7 rfl)
theorem dX8_holdsChild_8 : decode cX8_holdsChild 8 = .ok (.getfield 10, 3) := dop_180 (dn_w dw116_0 8 rfl) rfl
theorem dX8_holdsChild_11 : decode cX8_holdsChild 11 = .ok (.aload_n 1, 1) := dop_43 (dn_w dw116_0 11 rfl)
theorem dX8_holdsChild_12 : decode cX8_holdsChild 12 = .ok (.getfield 264, 3) := dop_180 (dn_w dw116_0 12 rfl) rfl
theorem dX8_holdsChild_15 : decode cX8_holdsChild 15 = .ok (.invokevirtual 102, 3) := dop_182 (dn_w dw116_0 15 rfl) rfl
theorem dX8_holdsChild_18 : decode cX8_holdsChild 18 = .ok (.ifCond .eq 7, 3) := dop_153 (dn_w dw116_1 2 rfl) rfl
theorem dX8_holdsChild_21 : decode cX8_holdsChild 21 = .ok (.iconst 1, 1) := dop_4 (dn_w dw116_1 5 rfl)
theorem dX8_holdsChild_22 : decode cX8_holdsChild 22 = .ok (.goto 4, 3) := dop_167 (dn_w dw116_1 6 rfl) rfl
theorem dX8_holdsChild_25 : decode cX8_holdsChild 25 = .ok (.iconst 0, 1) := dop_3 (dn_w dw116_1 9 rfl)
theorem dX8_holdsChild_26 : decode cX8_holdsChild 26 = .ok (.ireturn, 1) := dop_172 (dn_w dw116_1 10 rfl)
noncomputable def dt117_17 : List Nat := 42 :: 5 :: 188 :: 10 :: 181 :: 0 :: 84 :: 177 :: []
noncomputable def dt117_16 : List Nat := 16 :: 30 :: 188 :: 10 :: 181 :: 0 :: 78 :: 42 :: 17 :: 0 :: 190 :: 188 :: 10 :: 181 :: 0 :: 81 :: dt117_17
noncomputable def dt117_15 : List Nat := 69 :: 42 :: 7 :: 188 :: 10 :: 181 :: 0 :: 72 :: 42 :: 7 :: 188 :: 10 :: 181 :: 0 :: 75 :: 42 :: dt117_16
noncomputable def dt117_14 : List Nat := 2 :: 79 :: 89 :: 4 :: 2 :: 79 :: 89 :: 5 :: 2 :: 79 :: 89 :: 6 :: 2 :: 79 :: 181 :: 0 :: dt117_15
noncomputable def dt117_13 : List Nat := 62 :: 42 :: 17 :: 0 :: 160 :: 188 :: 11 :: 181 :: 0 :: 65 :: 42 :: 7 :: 188 :: 10 :: 89 :: 3 :: dt117_14
noncomputable def dt117_12 : List Nat := 5 :: 2 :: 79 :: 89 :: 6 :: 2 :: 79 :: 181 :: 0 :: 59 :: 42 :: 7 :: 188 :: 10 :: 181 :: 0 :: dt117_13
noncomputable def dt117_11 : List Nat := 181 :: 0 :: 56 :: 42 :: 7 :: 188 :: 10 :: 89 :: 3 :: 2 :: 79 :: 89 :: 4 :: 2 :: 79 :: 89 :: dt117_12
noncomputable def dt117_10 : List Nat := 181 :: 0 :: 50 :: 42 :: 16 :: 60 :: 188 :: 10 :: 181 :: 0 :: 53 :: 42 :: 16 :: 60 :: 188 :: 10 :: dt117_11
noncomputable def dt117_9 : List Nat := 10 :: 181 :: 0 :: 44 :: 42 :: 16 :: 40 :: 188 :: 10 :: 181 :: 0 :: 47 :: 42 :: 7 :: 188 :: 10 :: dt117_10
noncomputable def dt117_8 : List Nat := 10 :: 181 :: 0 :: 38 :: 42 :: 16 :: 32 :: 188 :: 10 :: 181 :: 0 :: 41 :: 42 :: 16 :: 8 :: 188 :: dt117_9
noncomputable def dt117_7 : List Nat := 16 :: 20 :: 79 :: 181 :: 0 :: 31 :: 42 :: 4 :: 181 :: 0 :: 34 :: 42 :: 17 :: 0 :: 240 :: 188 :: dt117_8
noncomputable def dt117_6 : List Nat := 3 :: 16 :: 20 :: 79 :: 89 :: 4 :: 16 :: 30 :: 79 :: 89 :: 5 :: 16 :: 8 :: 79 :: 89 :: 6 :: dt117_7
noncomputable def dt117_5 : List Nat := 89 :: 5 :: 4 :: 79 :: 89 :: 6 :: 4 :: 79 :: 181 :: 0 :: 28 :: 42 :: 7 :: 188 :: 10 :: 89 :: dt117_6
noncomputable def dt117_4 : List Nat := 79 :: 181 :: 0 :: 25 :: 42 :: 7 :: 188 :: 10 :: 89 :: 3 :: 4 :: 79 :: 89 :: 4 :: 5 :: 79 :: dt117_5
noncomputable def dt117_3 : List Nat := 89 :: 3 :: 8 :: 79 :: 89 :: 4 :: 16 :: 11 :: 79 :: 89 :: 5 :: 5 :: 79 :: 89 :: 6 :: 6 :: dt117_4
noncomputable def dt117_2 : List Nat := 10 :: 181 :: 0 :: 19 :: 42 :: 16 :: 40 :: 188 :: 10 :: 181 :: 0 :: 22 :: 42 :: 7 :: 188 :: 10 :: dt117_3
noncomputable def dt117_1 : List Nat := 10 :: 181 :: 0 :: 13 :: 42 :: 16 :: 40 :: 188 :: 10 :: 181 :: 0 :: 16 :: 42 :: 16 :: 40 :: 188 :: dt117_2
noncomputable def dt117_0 : List Nat := 42 :: 183 :: 0 :: 1 :: 42 :: 16 :: 32 :: 188 :: 10 :: 181 :: 0 :: 7 :: 42 :: 16 :: 50 :: 188 :: dt117_1
theorem dw117_0 : dn cX9_init 0 = dt117_0 := by decide +kernel
theorem dw117_1 : dn cX9_init 16 = dt117_1 := dn_w dw117_0 16 rfl
theorem dw117_2 : dn cX9_init 32 = dt117_2 := dn_w dw117_1 16 rfl
theorem dw117_3 : dn cX9_init 48 = dt117_3 := dn_w dw117_2 16 rfl
theorem dw117_4 : dn cX9_init 64 = dt117_4 := dn_w dw117_3 16 rfl
theorem dw117_5 : dn cX9_init 80 = dt117_5 := dn_w dw117_4 16 rfl
theorem dw117_6 : dn cX9_init 96 = dt117_6 := dn_w dw117_5 16 rfl
theorem dw117_7 : dn cX9_init 112 = dt117_7 := dn_w dw117_6 16 rfl
theorem dw117_8 : dn cX9_init 128 = dt117_8 := dn_w dw117_7 16 rfl
theorem dw117_9 : dn cX9_init 144 = dt117_9 := dn_w dw117_8 16 rfl
theorem dw117_10 : dn cX9_init 160 = dt117_10 := dn_w dw117_9 16 rfl
theorem dw117_11 : dn cX9_init 176 = dt117_11 := dn_w dw117_10 16 rfl
theorem dw117_12 : dn cX9_init 192 = dt117_12 := dn_w dw117_11 16 rfl
theorem dw117_13 : dn cX9_init 208 = dt117_13 := dn_w dw117_12 16 rfl
theorem dw117_14 : dn cX9_init 224 = dt117_14 := dn_w dw117_13 16 rfl
theorem dw117_15 : dn cX9_init 240 = dt117_15 := dn_w dw117_14 16 rfl
theorem dw117_16 : dn cX9_init 256 = dt117_16 := dn_w dw117_15 16 rfl
theorem dw117_17 : dn cX9_init 272 = dt117_17 := dn_w dw117_16 16 rfl
theorem dX9_init_0 : decode cX9_init 0 = .ok (.aload_n 0, 1) := dop_42 (dn_w dw117_0 0 rfl)
theorem dX9_init_1 : decode cX9_init 1 = .ok (.invokespecial 1, 3) := dop_183 (dn_w dw117_0 1 rfl) rfl
theorem dX9_init_4 : decode cX9_init 4 = .ok (.aload_n 0, 1) := dop_42 (dn_w dw117_0 4 rfl)
theorem dX9_init_5 : decode cX9_init 5 = .ok (.bipush 32, 2) := dop_16 (dn_w dw117_0 5 rfl) rfl
theorem dX9_init_7 : decode cX9_init 7 = .ok (.newarray .int, 2) := by decide +kernel
theorem dX9_init_9 : decode cX9_init 9 = .ok (.putfield 7, 3) := dop_181 (dn_w dw117_0 9 rfl) rfl
theorem dX9_init_12 : decode cX9_init 12 = .ok (.aload_n 0, 1) := dop_42 (dn_w dw117_0 12 rfl)
theorem dX9_init_13 : decode cX9_init 13 = .ok (.bipush 50, 2) := dop_16 (dn_w dw117_0 13 rfl) rfl
theorem dX9_init_15 : decode cX9_init 15 = .ok (.newarray .int, 2) := by decide +kernel
theorem dX9_init_17 : decode cX9_init 17 = .ok (.putfield 13, 3) := dop_181 (dn_w dw117_1 1 rfl) rfl
theorem dX9_init_20 : decode cX9_init 20 = .ok (.aload_n 0, 1) := dop_42 (dn_w dw117_1 4 rfl)
theorem dX9_init_21 : decode cX9_init 21 = .ok (.bipush 40, 2) := dop_16 (dn_w dw117_1 5 rfl) rfl
theorem dX9_init_23 : decode cX9_init 23 = .ok (.newarray .int, 2) := by decide +kernel
theorem dX9_init_25 : decode cX9_init 25 = .ok (.putfield 16, 3) := dop_181 (dn_w dw117_1 9 rfl) rfl
theorem dX9_init_28 : decode cX9_init 28 = .ok (.aload_n 0, 1) := dop_42 (dn_w dw117_1 12 rfl)
theorem dX9_init_29 : decode cX9_init 29 = .ok (.bipush 40, 2) := dop_16 (dn_w dw117_1 13 rfl) rfl
theorem dX9_init_31 : decode cX9_init 31 = .ok (.newarray .int, 2) := by decide +kernel
theorem dX9_init_33 : decode cX9_init 33 = .ok (.putfield 19, 3) := dop_181 (dn_w dw117_2 1 rfl) rfl
theorem dX9_init_36 : decode cX9_init 36 = .ok (.aload_n 0, 1) := dop_42 (dn_w dw117_2 4 rfl)
theorem dX9_init_37 : decode cX9_init 37 = .ok (.bipush 40, 2) := dop_16 (dn_w dw117_2 5 rfl) rfl
theorem dX9_init_39 : decode cX9_init 39 = .ok (.newarray .int, 2) := by decide +kernel
theorem dX9_init_41 : decode cX9_init 41 = .ok (.putfield 22, 3) := dop_181 (dn_w dw117_2 9 rfl) rfl
theorem dX9_init_44 : decode cX9_init 44 = .ok (.aload_n 0, 1) := dop_42 (dn_w dw117_2 12 rfl)
theorem dX9_init_45 : decode cX9_init 45 = .ok (.iconst 4, 1) := dop_7 (dn_w dw117_2 13 rfl)
theorem dX9_init_46 : decode cX9_init 46 = .ok (.newarray .int, 2) := by decide +kernel
theorem dX9_init_48 : decode cX9_init 48 = .ok (.dup, 1) := dop_89 (dn_w dw117_3 0 rfl)
theorem dX9_init_49 : decode cX9_init 49 = .ok (.iconst 0, 1) := dop_3 (dn_w dw117_3 1 rfl)
theorem dX9_init_50 : decode cX9_init 50 = .ok (.iconst 5, 1) := dop_8 (dn_w dw117_3 2 rfl)
theorem dX9_init_51 : decode cX9_init 51 = .ok (.iastore, 1) := dop_79 (dn_w dw117_3 3 rfl)
theorem dX9_init_52 : decode cX9_init 52 = .ok (.dup, 1) := dop_89 (dn_w dw117_3 4 rfl)
theorem dX9_init_53 : decode cX9_init 53 = .ok (.iconst 1, 1) := dop_4 (dn_w dw117_3 5 rfl)
theorem dX9_init_54 : decode cX9_init 54 = .ok (.bipush 11, 2) := dop_16 (dn_w dw117_3 6 rfl) rfl
theorem dX9_init_56 : decode cX9_init 56 = .ok (.iastore, 1) := dop_79 (dn_w dw117_3 8 rfl)
theorem dX9_init_57 : decode cX9_init 57 = .ok (.dup, 1) := dop_89 (dn_w dw117_3 9 rfl)
theorem dX9_init_58 : decode cX9_init 58 = .ok (.iconst 2, 1) := dop_5 (dn_w dw117_3 10 rfl)
theorem dX9_init_59 : decode cX9_init 59 = .ok (.iconst 2, 1) := dop_5 (dn_w dw117_3 11 rfl)
theorem dX9_init_60 : decode cX9_init 60 = .ok (.iastore, 1) := dop_79 (dn_w dw117_3 12 rfl)
theorem dX9_init_61 : decode cX9_init 61 = .ok (.dup, 1) := dop_89 (dn_w dw117_3 13 rfl)
theorem dX9_init_62 : decode cX9_init 62 = .ok (.iconst 3, 1) := dop_6 (dn_w dw117_3 14 rfl)
theorem dX9_init_63 : decode cX9_init 63 = .ok (.iconst 3, 1) := dop_6 (dn_w dw117_3 15 rfl)
theorem dX9_init_64 : decode cX9_init 64 = .ok (.iastore, 1) := dop_79 (dn_w dw117_4 0 rfl)
theorem dX9_init_65 : decode cX9_init 65 = .ok (.putfield 25, 3) := dop_181 (dn_w dw117_4 1 rfl) rfl
theorem dX9_init_68 : decode cX9_init 68 = .ok (.aload_n 0, 1) := dop_42 (dn_w dw117_4 4 rfl)
theorem dX9_init_69 : decode cX9_init 69 = .ok (.iconst 4, 1) := dop_7 (dn_w dw117_4 5 rfl)
theorem dX9_init_70 : decode cX9_init 70 = .ok (.newarray .int, 2) := by decide +kernel
theorem dX9_init_72 : decode cX9_init 72 = .ok (.dup, 1) := dop_89 (dn_w dw117_4 8 rfl)
theorem dX9_init_73 : decode cX9_init 73 = .ok (.iconst 0, 1) := dop_3 (dn_w dw117_4 9 rfl)
theorem dX9_init_74 : decode cX9_init 74 = .ok (.iconst 1, 1) := dop_4 (dn_w dw117_4 10 rfl)
theorem dX9_init_75 : decode cX9_init 75 = .ok (.iastore, 1) := dop_79 (dn_w dw117_4 11 rfl)
theorem dX9_init_76 : decode cX9_init 76 = .ok (.dup, 1) := dop_89 (dn_w dw117_4 12 rfl)
theorem dX9_init_77 : decode cX9_init 77 = .ok (.iconst 1, 1) := dop_4 (dn_w dw117_4 13 rfl)
theorem dX9_init_78 : decode cX9_init 78 = .ok (.iconst 2, 1) := dop_5 (dn_w dw117_4 14 rfl)
theorem dX9_init_79 : decode cX9_init 79 = .ok (.iastore, 1) := dop_79 (dn_w dw117_4 15 rfl)
theorem dX9_init_80 : decode cX9_init 80 = .ok (.dup, 1) := dop_89 (dn_w dw117_5 0 rfl)
theorem dX9_init_81 : decode cX9_init 81 = .ok (.iconst 2, 1) := dop_5 (dn_w dw117_5 1 rfl)
theorem dX9_init_82 : decode cX9_init 82 = .ok (.iconst 1, 1) := dop_4 (dn_w dw117_5 2 rfl)
theorem dX9_init_83 : decode cX9_init 83 = .ok (.iastore, 1) := dop_79 (dn_w dw117_5 3 rfl)
theorem dX9_init_84 : decode cX9_init 84 = .ok (.dup, 1) := dop_89 (dn_w dw117_5 4 rfl)
theorem dX9_init_85 : decode cX9_init 85 = .ok (.iconst 3, 1) := dop_6 (dn_w dw117_5 5 rfl)
theorem dX9_init_86 : decode cX9_init 86 = .ok (.iconst 1, 1) := dop_4 (dn_w dw117_5 6 rfl)
theorem dX9_init_87 : decode cX9_init 87 = .ok (.iastore, 1) := dop_79 (dn_w dw117_5 7 rfl)
theorem dX9_init_88 : decode cX9_init 88 = .ok (.putfield 28, 3) := dop_181 (dn_w dw117_5 8 rfl) rfl
theorem dX9_init_91 : decode cX9_init 91 = .ok (.aload_n 0, 1) := dop_42 (dn_w dw117_5 11 rfl)
theorem dX9_init_92 : decode cX9_init 92 = .ok (.iconst 4, 1) := dop_7 (dn_w dw117_5 12 rfl)
theorem dX9_init_93 : decode cX9_init 93 = .ok (.newarray .int, 2) := by decide +kernel
theorem dX9_init_95 : decode cX9_init 95 = .ok (.dup, 1) := dop_89 (dn_w dw117_5 15 rfl)
theorem dX9_init_96 : decode cX9_init 96 = .ok (.iconst 0, 1) := dop_3 (dn_w dw117_6 0 rfl)
theorem dX9_init_97 : decode cX9_init 97 = .ok (.bipush 20, 2) := dop_16 (dn_w dw117_6 1 rfl) rfl
theorem dX9_init_99 : decode cX9_init 99 = .ok (.iastore, 1) := dop_79 (dn_w dw117_6 3 rfl)
theorem dX9_init_100 : decode cX9_init 100 = .ok (.dup, 1) := dop_89 (dn_w dw117_6 4 rfl)
theorem dX9_init_101 : decode cX9_init 101 = .ok (.iconst 1, 1) := dop_4 (dn_w dw117_6 5 rfl)
theorem dX9_init_102 : decode cX9_init 102 = .ok (.bipush 30, 2) := dop_16 (dn_w dw117_6 6 rfl) rfl
theorem dX9_init_104 : decode cX9_init 104 = .ok (.iastore, 1) := dop_79 (dn_w dw117_6 8 rfl)
theorem dX9_init_105 : decode cX9_init 105 = .ok (.dup, 1) := dop_89 (dn_w dw117_6 9 rfl)
theorem dX9_init_106 : decode cX9_init 106 = .ok (.iconst 2, 1) := dop_5 (dn_w dw117_6 10 rfl)
theorem dX9_init_107 : decode cX9_init 107 = .ok (.bipush 8, 2) := dop_16 (dn_w dw117_6 11 rfl) rfl
theorem dX9_init_109 : decode cX9_init 109 = .ok (.iastore, 1) := dop_79 (dn_w dw117_6 13 rfl)
theorem dX9_init_110 : decode cX9_init 110 = .ok (.dup, 1) := dop_89 (dn_w dw117_6 14 rfl)
theorem dX9_init_111 : decode cX9_init 111 = .ok (.iconst 3, 1) := dop_6 (dn_w dw117_6 15 rfl)
theorem dX9_init_112 : decode cX9_init 112 = .ok (.bipush 20, 2) := dop_16 (dn_w dw117_7 0 rfl) rfl
theorem dX9_init_114 : decode cX9_init 114 = .ok (.iastore, 1) := dop_79 (dn_w dw117_7 2 rfl)
theorem dX9_init_115 : decode cX9_init 115 = .ok (.putfield 31, 3) := dop_181 (dn_w dw117_7 3 rfl) rfl
theorem dX9_init_118 : decode cX9_init 118 = .ok (.aload_n 0, 1) := dop_42 (dn_w dw117_7 6 rfl)
theorem dX9_init_119 : decode cX9_init 119 = .ok (.iconst 1, 1) := dop_4 (dn_w dw117_7 7 rfl)
theorem dX9_init_120 : decode cX9_init 120 = .ok (.putfield 34, 3) := dop_181 (dn_w dw117_7 8 rfl) rfl
theorem dX9_init_123 : decode cX9_init 123 = .ok (.aload_n 0, 1) := dop_42 (dn_w dw117_7 11 rfl)
theorem dX9_init_124 : decode cX9_init 124 = .ok (.sipush 240, 3) := dop_17 (dn_w dw117_7 12 rfl) rfl
theorem dX9_init_127 : decode cX9_init 127 = .ok (.newarray .int, 2) := by decide +kernel
theorem dX9_init_129 : decode cX9_init 129 = .ok (.putfield 38, 3) := dop_181 (dn_w dw117_8 1 rfl) rfl
theorem dX9_init_132 : decode cX9_init 132 = .ok (.aload_n 0, 1) := dop_42 (dn_w dw117_8 4 rfl)
theorem dX9_init_133 : decode cX9_init 133 = .ok (.bipush 32, 2) := dop_16 (dn_w dw117_8 5 rfl) rfl
theorem dX9_init_135 : decode cX9_init 135 = .ok (.newarray .int, 2) := by decide +kernel
theorem dX9_init_137 : decode cX9_init 137 = .ok (.putfield 41, 3) := dop_181 (dn_w dw117_8 9 rfl) rfl
theorem dX9_init_140 : decode cX9_init 140 = .ok (.aload_n 0, 1) := dop_42 (dn_w dw117_8 12 rfl)
theorem dX9_init_141 : decode cX9_init 141 = .ok (.bipush 8, 2) := dop_16 (dn_w dw117_8 13 rfl) rfl
theorem dX9_init_143 : decode cX9_init 143 = .ok (.newarray .int, 2) := by decide +kernel
theorem dX9_init_145 : decode cX9_init 145 = .ok (.putfield 44, 3) := dop_181 (dn_w dw117_9 1 rfl) rfl
theorem dX9_init_148 : decode cX9_init 148 = .ok (.aload_n 0, 1) := dop_42 (dn_w dw117_9 4 rfl)
theorem dX9_init_149 : decode cX9_init 149 = .ok (.bipush 40, 2) := dop_16 (dn_w dw117_9 5 rfl) rfl
theorem dX9_init_151 : decode cX9_init 151 = .ok (.newarray .int, 2) := by decide +kernel
theorem dX9_init_153 : decode cX9_init 153 = .ok (.putfield 47, 3) := dop_181 (dn_w dw117_9 9 rfl) rfl
theorem dX9_init_156 : decode cX9_init 156 = .ok (.aload_n 0, 1) := dop_42 (dn_w dw117_9 12 rfl)
theorem dX9_init_157 : decode cX9_init 157 = .ok (.iconst 4, 1) := dop_7 (dn_w dw117_9 13 rfl)
theorem dX9_init_158 : decode cX9_init 158 = .ok (.newarray .int, 2) := by decide +kernel
theorem dX9_init_160 : decode cX9_init 160 = .ok (.putfield 50, 3) := dop_181 (dn_w dw117_10 0 rfl) rfl
theorem dX9_init_163 : decode cX9_init 163 = .ok (.aload_n 0, 1) := dop_42 (dn_w dw117_10 3 rfl)
theorem dX9_init_164 : decode cX9_init 164 = .ok (.bipush 60, 2) := dop_16 (dn_w dw117_10 4 rfl) rfl
theorem dX9_init_166 : decode cX9_init 166 = .ok (.newarray .int, 2) := by decide +kernel
theorem dX9_init_168 : decode cX9_init 168 = .ok (.putfield 53, 3) := dop_181 (dn_w dw117_10 8 rfl) rfl
theorem dX9_init_171 : decode cX9_init 171 = .ok (.aload_n 0, 1) := dop_42 (dn_w dw117_10 11 rfl)
theorem dX9_init_172 : decode cX9_init 172 = .ok (.bipush 60, 2) := dop_16 (dn_w dw117_10 12 rfl) rfl
theorem dX9_init_174 : decode cX9_init 174 = .ok (.newarray .int, 2) := by decide +kernel
theorem dX9_init_176 : decode cX9_init 176 = .ok (.putfield 56, 3) := dop_181 (dn_w dw117_11 0 rfl) rfl
theorem dX9_init_179 : decode cX9_init 179 = .ok (.aload_n 0, 1) := dop_42 (dn_w dw117_11 3 rfl)
theorem dX9_init_180 : decode cX9_init 180 = .ok (.iconst 4, 1) := dop_7 (dn_w dw117_11 4 rfl)
theorem dX9_init_181 : decode cX9_init 181 = .ok (.newarray .int, 2) := by decide +kernel
theorem dX9_init_183 : decode cX9_init 183 = .ok (.dup, 1) := dop_89 (dn_w dw117_11 7 rfl)
theorem dX9_init_184 : decode cX9_init 184 = .ok (.iconst 0, 1) := dop_3 (dn_w dw117_11 8 rfl)
theorem dX9_init_185 : decode cX9_init 185 = .ok (.iconst (-1), 1) := dop_2 (dn_w dw117_11 9 rfl)
theorem dX9_init_186 : decode cX9_init 186 = .ok (.iastore, 1) := dop_79 (dn_w dw117_11 10 rfl)
theorem dX9_init_187 : decode cX9_init 187 = .ok (.dup, 1) := dop_89 (dn_w dw117_11 11 rfl)
theorem dX9_init_188 : decode cX9_init 188 = .ok (.iconst 1, 1) := dop_4 (dn_w dw117_11 12 rfl)
theorem dX9_init_189 : decode cX9_init 189 = .ok (.iconst (-1), 1) := dop_2 (dn_w dw117_11 13 rfl)
theorem dX9_init_190 : decode cX9_init 190 = .ok (.iastore, 1) := dop_79 (dn_w dw117_11 14 rfl)
theorem dX9_init_191 : decode cX9_init 191 = .ok (.dup, 1) := dop_89 (dn_w dw117_11 15 rfl)
theorem dX9_init_192 : decode cX9_init 192 = .ok (.iconst 2, 1) := dop_5 (dn_w dw117_12 0 rfl)
theorem dX9_init_193 : decode cX9_init 193 = .ok (.iconst (-1), 1) := dop_2 (dn_w dw117_12 1 rfl)
theorem dX9_init_194 : decode cX9_init 194 = .ok (.iastore, 1) := dop_79 (dn_w dw117_12 2 rfl)
theorem dX9_init_195 : decode cX9_init 195 = .ok (.dup, 1) := dop_89 (dn_w dw117_12 3 rfl)
theorem dX9_init_196 : decode cX9_init 196 = .ok (.iconst 3, 1) := dop_6 (dn_w dw117_12 4 rfl)
theorem dX9_init_197 : decode cX9_init 197 = .ok (.iconst (-1), 1) := dop_2 (dn_w dw117_12 5 rfl)
theorem dX9_init_198 : decode cX9_init 198 = .ok (.iastore, 1) := dop_79 (dn_w dw117_12 6 rfl)
theorem dX9_init_199 : decode cX9_init 199 = .ok (.putfield 59, 3) := dop_181 (dn_w dw117_12 7 rfl) rfl
theorem dX9_init_202 : decode cX9_init 202 = .ok (.aload_n 0, 1) := dop_42 (dn_w dw117_12 10 rfl)
theorem dX9_init_203 : decode cX9_init 203 = .ok (.iconst 4, 1) := dop_7 (dn_w dw117_12 11 rfl)
theorem dX9_init_204 : decode cX9_init 204 = .ok (.newarray .int, 2) := by decide +kernel
theorem dX9_init_206 : decode cX9_init 206 = .ok (.putfield 62, 3) := dop_181 (dn_w dw117_12 14 rfl) rfl
theorem dX9_init_209 : decode cX9_init 209 = .ok (.aload_n 0, 1) := dop_42 (dn_w dw117_13 1 rfl)
theorem dX9_init_210 : decode cX9_init 210 = .ok (.sipush 160, 3) := dop_17 (dn_w dw117_13 2 rfl) rfl
theorem dX9_init_213 : decode cX9_init 213 = .ok (.newarray .long, 2) := by decide +kernel
theorem dX9_init_215 : decode cX9_init 215 = .ok (.putfield 65, 3) := dop_181 (dn_w dw117_13 7 rfl) rfl
theorem dX9_init_218 : decode cX9_init 218 = .ok (.aload_n 0, 1) := dop_42 (dn_w dw117_13 10 rfl)
theorem dX9_init_219 : decode cX9_init 219 = .ok (.iconst 4, 1) := dop_7 (dn_w dw117_13 11 rfl)
theorem dX9_init_220 : decode cX9_init 220 = .ok (.newarray .int, 2) := by decide +kernel
theorem dX9_init_222 : decode cX9_init 222 = .ok (.dup, 1) := dop_89 (dn_w dw117_13 14 rfl)
theorem dX9_init_223 : decode cX9_init 223 = .ok (.iconst 0, 1) := dop_3 (dn_w dw117_13 15 rfl)
theorem dX9_init_224 : decode cX9_init 224 = .ok (.iconst (-1), 1) := dop_2 (dn_w dw117_14 0 rfl)
theorem dX9_init_225 : decode cX9_init 225 = .ok (.iastore, 1) := dop_79 (dn_w dw117_14 1 rfl)
theorem dX9_init_226 : decode cX9_init 226 = .ok (.dup, 1) := dop_89 (dn_w dw117_14 2 rfl)
theorem dX9_init_227 : decode cX9_init 227 = .ok (.iconst 1, 1) := dop_4 (dn_w dw117_14 3 rfl)
theorem dX9_init_228 : decode cX9_init 228 = .ok (.iconst (-1), 1) := dop_2 (dn_w dw117_14 4 rfl)
theorem dX9_init_229 : decode cX9_init 229 = .ok (.iastore, 1) := dop_79 (dn_w dw117_14 5 rfl)
theorem dX9_init_230 : decode cX9_init 230 = .ok (.dup, 1) := dop_89 (dn_w dw117_14 6 rfl)
theorem dX9_init_231 : decode cX9_init 231 = .ok (.iconst 2, 1) := dop_5 (dn_w dw117_14 7 rfl)
theorem dX9_init_232 : decode cX9_init 232 = .ok (.iconst (-1), 1) := dop_2 (dn_w dw117_14 8 rfl)
theorem dX9_init_233 : decode cX9_init 233 = .ok (.iastore, 1) := dop_79 (dn_w dw117_14 9 rfl)
theorem dX9_init_234 : decode cX9_init 234 = .ok (.dup, 1) := dop_89 (dn_w dw117_14 10 rfl)
theorem dX9_init_235 : decode cX9_init 235 = .ok (.iconst 3, 1) := dop_6 (dn_w dw117_14 11 rfl)
theorem dX9_init_236 : decode cX9_init 236 = .ok (.iconst (-1), 1) := dop_2 (dn_w dw117_14 12 rfl)
theorem dX9_init_237 : decode cX9_init 237 = .ok (.iastore, 1) := dop_79 (dn_w dw117_14 13 rfl)
theorem dX9_init_238 : decode cX9_init 238 = .ok (.putfield 69, 3) := dop_181 (dn_w dw117_14 14 rfl) rfl
theorem dX9_init_241 : decode cX9_init 241 = .ok (.aload_n 0, 1) := dop_42 (dn_w dw117_15 1 rfl)
theorem dX9_init_242 : decode cX9_init 242 = .ok (.iconst 4, 1) := dop_7 (dn_w dw117_15 2 rfl)
theorem dX9_init_243 : decode cX9_init 243 = .ok (.newarray .int, 2) := by decide +kernel
theorem dX9_init_245 : decode cX9_init 245 = .ok (.putfield 72, 3) := dop_181 (dn_w dw117_15 5 rfl) rfl
theorem dX9_init_248 : decode cX9_init 248 = .ok (.aload_n 0, 1) := dop_42 (dn_w dw117_15 8 rfl)
theorem dX9_init_249 : decode cX9_init 249 = .ok (.iconst 4, 1) := dop_7 (dn_w dw117_15 9 rfl)
theorem dX9_init_250 : decode cX9_init 250 = .ok (.newarray .int, 2) := by decide +kernel
theorem dX9_init_252 : decode cX9_init 252 = .ok (.putfield 75, 3) := dop_181 (dn_w dw117_15 12 rfl) rfl
theorem dX9_init_255 : decode cX9_init 255 = .ok (.aload_n 0, 1) := dop_42 (dn_w dw117_15 15 rfl)
theorem dX9_init_256 : decode cX9_init 256 = .ok (.bipush 30, 2) := dop_16 (dn_w dw117_16 0 rfl) rfl
theorem dX9_init_258 : decode cX9_init 258 = .ok (.newarray .int, 2) := by decide +kernel
theorem dX9_init_260 : decode cX9_init 260 = .ok (.putfield 78, 3) := dop_181 (dn_w dw117_16 4 rfl) rfl
theorem dX9_init_263 : decode cX9_init 263 = .ok (.aload_n 0, 1) := dop_42 (dn_w dw117_16 7 rfl)
theorem dX9_init_264 : decode cX9_init 264 = .ok (.sipush 190, 3) := dop_17 (dn_w dw117_16 8 rfl) rfl
theorem dX9_init_267 : decode cX9_init 267 = .ok (.newarray .int, 2) := by decide +kernel
theorem dX9_init_269 : decode cX9_init 269 = .ok (.putfield 81, 3) := dop_181 (dn_w dw117_16 13 rfl) rfl
theorem dX9_init_272 : decode cX9_init 272 = .ok (.aload_n 0, 1) := dop_42 (dn_w dw117_17 0 rfl)
theorem dX9_init_273 : decode cX9_init 273 = .ok (.iconst 2, 1) := dop_5 (dn_w dw117_17 1 rfl)
theorem dX9_init_274 : decode cX9_init 274 = .ok (.newarray .int, 2) := by decide +kernel
theorem dX9_init_276 : decode cX9_init 276 = .ok (.putfield 84, 3) := dop_181 (dn_w dw117_17 4 rfl) rfl
theorem dX9_init_279 : decode cX9_init 279 = .ok (.return_, 1) := dop_177 (dn_w dw117_17 7 rfl)
noncomputable def dt118_0 : List Nat := 26 :: 27 :: 161 :: 0 :: 12 :: 26 :: 28 :: 163 :: 0 :: 7 :: 4 :: 167 :: 0 :: 4 :: 3 :: 172 :: []
theorem dw118_0 : dn cX9_in 0 = dt118_0 := by decide +kernel
theorem dX9_in_0 : decode cX9_in 0 = .ok (.iload_n 0, 1) := dop_26 (dn_w dw118_0 0 rfl)
theorem dX9_in_1 : decode cX9_in 1 = .ok (.iload_n 1, 1) := dop_27 (dn_w dw118_0 1 rfl)
theorem dX9_in_2 : decode cX9_in 2 = .ok (.if_icmp .lt 12, 3) := dop_161 (dn_w dw118_0 2 rfl) rfl
theorem dX9_in_5 : decode cX9_in 5 = .ok (.iload_n 0, 1) := dop_26 (dn_w dw118_0 5 rfl)
theorem dX9_in_6 : decode cX9_in 6 = .ok (.iload_n 2, 1) := dop_28 (dn_w dw118_0 6 rfl)
theorem dX9_in_7 : decode cX9_in 7 = .ok (.if_icmp .gt 7, 3) := dop_163 (dn_w dw118_0 7 rfl) rfl
theorem dX9_in_10 : decode cX9_in 10 = .ok (.iconst 1, 1) := dop_4 (dn_w dw118_0 10 rfl)
theorem dX9_in_11 : decode cX9_in 11 = .ok (.goto 4, 3) := dop_167 (dn_w dw118_0 11 rfl) rfl
theorem dX9_in_14 : decode cX9_in 14 = .ok (.iconst 0, 1) := dop_3 (dn_w dw118_0 14 rfl)
theorem dX9_in_15 : decode cX9_in 15 = .ok (.ireturn, 1) := dop_172 (dn_w dw118_0 15 rfl)
noncomputable def dt119_0 : List Nat := 26 :: 3 :: 16 :: 39 :: 184 :: 0 :: 87 :: 172 :: []
theorem dw119_0 : dn cX9_isDay 0 = dt119_0 := by decide +kernel
theorem dX9_isDay_0 : decode cX9_isDay 0 = .ok (.iload_n 0, 1) := dop_26 (dn_w dw119_0 0 rfl)
theorem dX9_isDay_1 : decode cX9_isDay 1 = .ok (.iconst 0, 1) := dop_3 (dn_w dw119_0 1 rfl)
theorem dX9_isDay_2 : decode cX9_isDay 2 = .ok (.bipush 39, 2) := dop_16 (dn_w dw119_0 2 rfl) rfl
theorem dX9_isDay_4 : decode cX9_isDay 4 = .ok (.invokestatic 87, 3) := dop_184 (dn_w dw119_0 4 rfl) rfl
theorem dX9_isDay_7 : decode cX9_isDay 7 = .ok (.ireturn, 1) := dop_172 (dn_w dw119_0 7 rfl)
noncomputable def dt120_0 : List Nat := 27 :: 3 :: 42 :: 180 :: 0 :: 91 :: 4 :: 100 :: 184 :: 0 :: 87 :: 172 :: []
theorem dw120_0 : dn cX9_isChild 0 = dt120_0 := by decide +kernel
theorem dX9_isChild_0 : decode cX9_isChild 0 = .ok (.iload_n 1, 1) := dop_27 (dn_w dw120_0 0 rfl)
theorem dX9_isChild_1 : decode cX9_isChild 1 = .ok (.iconst 0, 1) := dop_3 (dn_w dw120_0 1 rfl)
theorem dX9_isChild_2 : decode cX9_isChild 2 = .ok (.aload_n 0, 1) := dop_42 (dn_w dw120_0 2 rfl)
theorem dX9_isChild_3 : decode cX9_isChild 3 = .ok (.getfield 91, 3) := dop_180 (dn_w dw120_0 3 rfl) rfl
theorem dX9_isChild_6 : decode cX9_isChild 6 = .ok (.iconst 1, 1) := dop_4 (dn_w dw120_0 6 rfl)
theorem dX9_isChild_7 : decode cX9_isChild 7 = .ok (.isub, 1) := dop_100 (dn_w dw120_0 7 rfl)
theorem dX9_isChild_8 : decode cX9_isChild 8 = .ok (.invokestatic 87, 3) := dop_184 (dn_w dw120_0 8 rfl) rfl
theorem dX9_isChild_11 : decode cX9_isChild 11 = .ok (.ireturn, 1) := dop_172 (dn_w dw120_0 11 rfl)
noncomputable def dt121_0 : List Nat := 42 :: 180 :: 0 :: 7 :: 7 :: 27 :: 104 :: 28 :: 96 :: 46 :: 172 :: []
theorem dw121_0 : dn cX9_its 0 = dt121_0 := by decide +kernel
theorem dX9_its_0 : decode cX9_its 0 = .ok (.aload_n 0, 1) := dop_42 (dn_w dw121_0 0 rfl)
theorem dX9_its_1 : decode cX9_its 1 = .ok (.getfield 7, 3) := dop_180 (dn_w dw121_0 1 rfl) rfl
theorem dX9_its_4 : decode cX9_its 4 = .ok (.iconst 4, 1) := dop_7 (dn_w dw121_0 4 rfl)
theorem dX9_its_5 : decode cX9_its 5 = .ok (.iload_n 1, 1) := dop_27 (dn_w dw121_0 5 rfl)
theorem dX9_its_6 : decode cX9_its 6 = .ok (.imul, 1) := dop_104 (dn_w dw121_0 6 rfl)
theorem dX9_its_7 : decode cX9_its 7 = .ok (.iload_n 2, 1) := dop_28 (dn_w dw121_0 7 rfl)
theorem dX9_its_8 : decode cX9_its 8 = .ok (.iadd, 1) := dop_96 (dn_w dw121_0 8 rfl)
theorem dX9_its_9 : decode cX9_its 9 = .ok (.iaload, 1) := dop_46 (dn_w dw121_0 9 rfl)
theorem dX9_its_10 : decode cX9_its 10 = .ok (.ireturn, 1) := dop_172 (dn_w dw121_0 10 rfl)
noncomputable def dt122_1 : List Nat := 153 :: 0 :: 7 :: 4 :: 167 :: 0 :: 4 :: 3 :: 172 :: []
noncomputable def dt122_0 : List Nat := 26 :: 3 :: 8 :: 184 :: 0 :: 87 :: 153 :: 0 :: 17 :: 27 :: 3 :: 16 :: 9 :: 184 :: 0 :: 87 :: dt122_1
theorem dw122_0 : dn cX9_isLike 0 = dt122_0 := by decide +kernel
theorem dw122_1 : dn cX9_isLike 16 = dt122_1 := dn_w dw122_0 16 rfl
theorem dX9_isLike_0 : decode cX9_isLike 0 = .ok (.iload_n 0, 1) := dop_26 (dn_w dw122_0 0 rfl)
theorem dX9_isLike_1 : decode cX9_isLike 1 = .ok (.iconst 0, 1) := dop_3 (dn_w dw122_0 1 rfl)
theorem dX9_isLike_2 : decode cX9_isLike 2 = .ok (.iconst 5, 1) := dop_8 (dn_w dw122_0 2 rfl)
theorem dX9_isLike_3 : decode cX9_isLike 3 = .ok (.invokestatic 87, 3) := dop_184 (dn_w dw122_0 3 rfl) rfl
theorem dX9_isLike_6 : decode cX9_isLike 6 = .ok (.ifCond .eq 17, 3) := dop_153 (dn_w dw122_0 6 rfl) rfl
theorem dX9_isLike_9 : decode cX9_isLike 9 = .ok (.iload_n 1, 1) := dop_27 (dn_w dw122_0 9 rfl)
theorem dX9_isLike_10 : decode cX9_isLike 10 = .ok (.iconst 0, 1) := dop_3 (dn_w dw122_0 10 rfl)
theorem dX9_isLike_11 : decode cX9_isLike 11 = .ok (.bipush 9, 2) := dop_16 (dn_w dw122_0 11 rfl) rfl
theorem dX9_isLike_13 : decode cX9_isLike 13 = .ok (.invokestatic 87, 3) := dop_184 (dn_w dw122_0 13 rfl) rfl
theorem dX9_isLike_16 : decode cX9_isLike 16 = .ok (.ifCond .eq 7, 3) := dop_153 (dn_w dw122_1 0 rfl) rfl
theorem dX9_isLike_19 : decode cX9_isLike 19 = .ok (.iconst 1, 1) := dop_4 (dn_w dw122_1 3 rfl)
theorem dX9_isLike_20 : decode cX9_isLike 20 = .ok (.goto 4, 3) := dop_167 (dn_w dw122_1 4 rfl) rfl
theorem dX9_isLike_23 : decode cX9_isLike 23 = .ok (.iconst 0, 1) := dop_3 (dn_w dw122_1 7 rfl)
theorem dX9_isLike_24 : decode cX9_isLike 24 = .ok (.ireturn, 1) := dop_172 (dn_w dw122_1 8 rfl)
noncomputable def dt123_4 : List Nat := 181 :: 0 :: 94 :: 132 :: 4 :: 1 :: 167 :: 255 :: 216 :: 42 :: 180 :: 0 :: 94 :: 172 :: []
noncomputable def dt123_3 : List Nat := 4 :: 104 :: 123 :: 20 :: 0 :: 97 :: 127 :: 136 :: 79 :: 42 :: 89 :: 180 :: 0 :: 94 :: 4 :: 96 :: dt123_4
noncomputable def dt123_2 : List Nat := 29 :: 162 :: 0 :: 40 :: 42 :: 180 :: 0 :: 38 :: 42 :: 180 :: 0 :: 94 :: 31 :: 16 :: 8 :: 21 :: dt123_3
noncomputable def dt123_1 : List Nat := 29 :: 96 :: 17 :: 0 :: 240 :: 164 :: 0 :: 6 :: 16 :: 254 :: 172 :: 3 :: 54 :: 4 :: 21 :: 4 :: dt123_2
noncomputable def dt123_0 : List Nat := 29 :: 4 :: 16 :: 8 :: 184 :: 0 :: 87 :: 154 :: 0 :: 5 :: 2 :: 172 :: 42 :: 180 :: 0 :: 94 :: dt123_1
theorem dw123_0 : dn cX9_feed 0 = dt123_0 := by decide +kernel
theorem dw123_1 : dn cX9_feed 16 = dt123_1 := dn_w dw123_0 16 rfl
theorem dw123_2 : dn cX9_feed 32 = dt123_2 := dn_w dw123_1 16 rfl
theorem dw123_3 : dn cX9_feed 48 = dt123_3 := dn_w dw123_2 16 rfl
theorem dw123_4 : dn cX9_feed 64 = dt123_4 := dn_w dw123_3 16 rfl
theorem dX9_feed_0 : decode cX9_feed 0 = .ok (.iload_n 3, 1) := dop_29 (dn_w dw123_0 0 rfl)
theorem dX9_feed_1 : decode cX9_feed 1 = .ok (.iconst 1, 1) := dop_4 (dn_w dw123_0 1 rfl)
theorem dX9_feed_2 : decode cX9_feed 2 = .ok (.bipush 8, 2) := dop_16 (dn_w dw123_0 2 rfl) rfl
theorem dX9_feed_4 : decode cX9_feed 4 = .ok (.invokestatic 87, 3) := dop_184 (dn_w dw123_0 4 rfl) rfl
theorem dX9_feed_7 : decode cX9_feed 7 = .ok (.ifCond .ne 5, 3) := dop_154 (dn_w dw123_0 7 rfl) rfl
theorem dX9_feed_10 : decode cX9_feed 10 = .ok (.iconst (-1), 1) := dop_2 (dn_w dw123_0 10 rfl)
theorem dX9_feed_11 : decode cX9_feed 11 = .ok (.ireturn, 1) := dop_172 (dn_w dw123_0 11 rfl)
theorem dX9_feed_12 : decode cX9_feed 12 = .ok (.aload_n 0, 1) := dop_42 (dn_w dw123_0 12 rfl)
theorem dX9_feed_13 : decode cX9_feed 13 = .ok (.getfield 94, 3) := dop_180 (dn_w dw123_0 13 rfl) rfl
theorem dX9_feed_16 : decode cX9_feed 16 = .ok (.iload_n 3, 1) := dop_29 (dn_w dw123_1 0 rfl)
theorem dX9_feed_17 : decode cX9_feed 17 = .ok (.iadd, 1) := dop_96 (dn_w dw123_1 1 rfl)
theorem dX9_feed_18 : decode cX9_feed 18 = .ok (.sipush 240, 3) := dop_17 (dn_w dw123_1 2 rfl) rfl
theorem dX9_feed_21 : decode cX9_feed 21 = .ok (.if_icmp .le 6, 3) := dop_164 (dn_w dw123_1 5 rfl) rfl
theorem dX9_feed_24 : decode cX9_feed 24 = .ok (.bipush (-2), 2) := dop_16 (dn_w dw123_1 8 rfl) rfl
theorem dX9_feed_26 : decode cX9_feed 26 = .ok (.ireturn, 1) := dop_172 (dn_w dw123_1 10 rfl)
theorem dX9_feed_27 : decode cX9_feed 27 = .ok (.iconst 0, 1) := dop_3 (dn_w dw123_1 11 rfl)
theorem dX9_feed_28 : decode cX9_feed 28 = .ok (.istore 4, 2) := dop_54 (dn_w dw123_1 12 rfl)
theorem dX9_feed_30 : decode cX9_feed 30 = .ok (.iload 4, 2) := dop_21 (dn_w dw123_1 14 rfl)
theorem dX9_feed_32 : decode cX9_feed 32 = .ok (.iload_n 3, 1) := dop_29 (dn_w dw123_2 0 rfl)
theorem dX9_feed_33 : decode cX9_feed 33 = .ok (.if_icmp .ge 40, 3) := dop_162 (dn_w dw123_2 1 rfl) rfl
theorem dX9_feed_36 : decode cX9_feed 36 = .ok (.aload_n 0, 1) := dop_42 (dn_w dw123_2 4 rfl)
theorem dX9_feed_37 : decode cX9_feed 37 = .ok (.getfield 38, 3) := dop_180 (dn_w dw123_2 5 rfl) rfl
theorem dX9_feed_40 : decode cX9_feed 40 = .ok (.aload_n 0, 1) := dop_42 (dn_w dw123_2 8 rfl)
theorem dX9_feed_41 : decode cX9_feed 41 = .ok (.getfield 94, 3) := dop_180 (dn_w dw123_2 9 rfl) rfl
theorem dX9_feed_44 : decode cX9_feed 44 = .ok (.lload_n 1, 1) := dop_31 (dn_w dw123_2 12 rfl)
theorem dX9_feed_45 : decode cX9_feed 45 = .ok (.bipush 8, 2) := dop_16 (dn_w dw123_2 13 rfl) rfl
theorem dX9_feed_47 : decode cX9_feed 47 = .ok (.iload 4, 2) := dop_21 (dn_w dw123_2 15 rfl)
theorem dX9_feed_49 : decode cX9_feed 49 = .ok (.imul, 1) := dop_104 (dn_w dw123_3 1 rfl)
theorem dX9_feed_50 : decode cX9_feed 50 = .ok (.lshr, 1) := dop_123 (dn_w dw123_3 2 rfl)
theorem dX9_feed_51 : decode cX9_feed 51 = .ok (.ldc2_w 97, 3) := dop_20 (dn_w dw123_3 3 rfl) rfl
theorem dX9_feed_54 : decode cX9_feed 54 = .ok (.land, 1) := dop_127 (dn_w dw123_3 6 rfl)
theorem dX9_feed_55 : decode cX9_feed 55 = .ok (.l2i, 1) := dop_136 (dn_w dw123_3 7 rfl)
theorem dX9_feed_56 : decode cX9_feed 56 = .ok (.iastore, 1) := dop_79 (dn_w dw123_3 8 rfl)
theorem dX9_feed_57 : decode cX9_feed 57 = .ok (.aload_n 0, 1) := dop_42 (dn_w dw123_3 9 rfl)
theorem dX9_feed_58 : decode cX9_feed 58 = .ok (.dup, 1) := dop_89 (dn_w dw123_3 10 rfl)
theorem dX9_feed_59 : decode cX9_feed 59 = .ok (.getfield 94, 3) := dop_180 (dn_w dw123_3 11 rfl) rfl
theorem dX9_feed_62 : decode cX9_feed 62 = .ok (.iconst 1, 1) := dop_4 (dn_w dw123_3 14 rfl)
theorem dX9_feed_63 : decode cX9_feed 63 = .ok (.iadd, 1) := dop_96 (dn_w dw123_3 15 rfl)
theorem dX9_feed_64 : decode cX9_feed 64 = .ok (.putfield 94, 3) := dop_181 (dn_w dw123_4 0 rfl) rfl
theorem dX9_feed_67 : decode cX9_feed 67 = .ok (.iinc 4 1, 3) := dop_132 (dn_w dw123_4 3 rfl) rfl
theorem dX9_feed_70 : decode cX9_feed 70 = .ok (.goto (-40), 3) := dop_167 (dn_w dw123_4 6 rfl) rfl
theorem dX9_feed_73 : decode cX9_feed 73 = .ok (.aload_n 0, 1) := dop_42 (dn_w dw123_4 9 rfl)
theorem dX9_feed_74 : decode cX9_feed 74 = .ok (.getfield 94, 3) := dop_180 (dn_w dw123_4 10 rfl) rfl
theorem dX9_feed_77 : decode cX9_feed 77 = .ok (.ireturn, 1) := dop_172 (dn_w dw123_4 13 rfl)
noncomputable def dt124_1 : List Nat := 4 :: 2 :: 172 :: []
noncomputable def dt124_0 : List Nat := 27 :: 42 :: 180 :: 0 :: 94 :: 162 :: 0 :: 12 :: 42 :: 180 :: 0 :: 38 :: 27 :: 46 :: 167 :: 0 :: dt124_1
theorem dw124_0 : dn cX9_byteAt 0 = dt124_0 := by decide +kernel
theorem dw124_1 : dn cX9_byteAt 16 = dt124_1 := dn_w dw124_0 16 rfl
theorem dX9_byteAt_0 : decode cX9_byteAt 0 = .ok (.iload_n 1, 1) := dop_27 (dn_w dw124_0 0 rfl)
theorem dX9_byteAt_1 : decode cX9_byteAt 1 = .ok (.aload_n 0, 1) := dop_42 (dn_w dw124_0 1 rfl)
theorem dX9_byteAt_2 : decode cX9_byteAt 2 = .ok (.getfield 94, 3) := dop_180 (dn_w dw124_0 2 rfl) rfl
theorem dX9_byteAt_5 : decode cX9_byteAt 5 = .ok (.if_icmp .ge 12, 3) := dop_162 (dn_w dw124_0 5 rfl) rfl
theorem dX9_byteAt_8 : decode cX9_byteAt 8 = .ok (.aload_n 0, 1) := dop_42 (dn_w dw124_0 8 rfl)
theorem dX9_byteAt_9 : decode cX9_byteAt 9 = .ok (.getfield 38, 3) := dop_180 (dn_w dw124_0 9 rfl) rfl
theorem dX9_byteAt_12 : decode cX9_byteAt 12 = .ok (.iload_n 1, 1) := dop_27 (dn_w dw124_0 12 rfl)
theorem dX9_byteAt_13 : decode cX9_byteAt 13 = .ok (.iaload, 1) := dop_46 (dn_w dw124_0 13 rfl)
theorem dX9_byteAt_14 : decode cX9_byteAt 14 = .ok (.goto 4, 3) := dop_167 (dn_w dw124_0 14 rfl) rfl
theorem dX9_byteAt_17 : decode cX9_byteAt 17 = .ok (.iconst (-1), 1) := dop_2 (dn_w dw124_1 1 rfl)
theorem dX9_byteAt_18 : decode cX9_byteAt 18 = .ok (.ireturn, 1) := dop_172 (dn_w dw124_1 2 rfl)
noncomputable def dt125_0 : List Nat := 26 :: 16 :: 97 :: 16 :: 122 :: 184 :: 0 :: 87 :: 172 :: []
theorem dw125_0 : dn cX9_isLetter 0 = dt125_0 := by decide +kernel
theorem dX9_isLetter_0 : decode cX9_isLetter 0 = .ok (.iload_n 0, 1) := dop_26 (dn_w dw125_0 0 rfl)
theorem dX9_isLetter_1 : decode cX9_isLetter 1 = .ok (.bipush 97, 2) := dop_16 (dn_w dw125_0 1 rfl) rfl
theorem dX9_isLetter_3 : decode cX9_isLetter 3 = .ok (.bipush 122, 2) := dop_16 (dn_w dw125_0 3 rfl) rfl
theorem dX9_isLetter_5 : decode cX9_isLetter 5 = .ok (.invokestatic 87, 3) := dop_184 (dn_w dw125_0 5 rfl) rfl
theorem dX9_isLetter_8 : decode cX9_isLetter 8 = .ok (.ireturn, 1) := dop_172 (dn_w dw125_0 8 rfl)
noncomputable def dt126_0 : List Nat := 26 :: 16 :: 48 :: 16 :: 57 :: 184 :: 0 :: 87 :: 172 :: []
theorem dw126_0 : dn cX9_isDigit 0 = dt126_0 := by decide +kernel
theorem dX9_isDigit_0 : decode cX9_isDigit 0 = .ok (.iload_n 0, 1) := dop_26 (dn_w dw126_0 0 rfl)
theorem dX9_isDigit_1 : decode cX9_isDigit 1 = .ok (.bipush 48, 2) := dop_16 (dn_w dw126_0 1 rfl) rfl
theorem dX9_isDigit_3 : decode cX9_isDigit 3 = .ok (.bipush 57, 2) := dop_16 (dn_w dw126_0 3 rfl) rfl
theorem dX9_isDigit_5 : decode cX9_isDigit 5 = .ok (.invokestatic 87, 3) := dop_184 (dn_w dw126_0 5 rfl) rfl
theorem dX9_isDigit_8 : decode cX9_isDigit 8 = .ok (.ireturn, 1) := dop_172 (dn_w dw126_0 8 rfl)
noncomputable def dt127_17 : List Nat := 0 :: 99 :: 4 :: 96 :: 181 :: 0 :: 99 :: 167 :: 255 :: 184 :: 177 :: []
noncomputable def dt127_16 : List Nat := 0 :: 105 :: 96 :: 16 :: 48 :: 100 :: 167 :: 0 :: 4 :: 2 :: 181 :: 0 :: 123 :: 42 :: 89 :: 180 :: dt127_17
noncomputable def dt127_15 : List Nat := 162 :: 0 :: 25 :: 16 :: 10 :: 42 :: 180 :: 0 :: 123 :: 104 :: 42 :: 42 :: 180 :: 0 :: 99 :: 182 :: dt127_16
noncomputable def dt127_14 : List Nat := 0 :: 113 :: 153 :: 0 :: 56 :: 42 :: 42 :: 180 :: 0 :: 99 :: 42 :: 180 :: 0 :: 102 :: 100 :: 5 :: dt127_15
noncomputable def dt127_13 : List Nat := 180 :: 0 :: 116 :: 5 :: 160 :: 0 :: 70 :: 42 :: 42 :: 180 :: 0 :: 99 :: 182 :: 0 :: 105 :: 184 :: dt127_14
noncomputable def dt127_12 : List Nat := 0 :: 119 :: 42 :: 89 :: 180 :: 0 :: 99 :: 4 :: 96 :: 181 :: 0 :: 99 :: 167 :: 255 :: 178 :: 42 :: dt127_13
noncomputable def dt127_11 : List Nat := 182 :: 0 :: 105 :: 133 :: 97 :: 20 :: 0 :: 128 :: 101 :: 167 :: 0 :: 6 :: 20 :: 0 :: 130 :: 181 :: dt127_12
noncomputable def dt127_10 : List Nat := 162 :: 0 :: 28 :: 20 :: 0 :: 126 :: 42 :: 180 :: 0 :: 119 :: 105 :: 42 :: 42 :: 180 :: 0 :: 99 :: dt127_11
noncomputable def dt127_9 : List Nat := 109 :: 153 :: 0 :: 62 :: 42 :: 42 :: 180 :: 0 :: 99 :: 42 :: 180 :: 0 :: 102 :: 100 :: 16 :: 8 :: dt127_10
noncomputable def dt127_8 : List Nat := 0 :: 116 :: 4 :: 160 :: 0 :: 76 :: 42 :: 42 :: 180 :: 0 :: 99 :: 182 :: 0 :: 105 :: 184 :: 0 :: dt127_9
noncomputable def dt127_7 : List Nat := 6 :: 160 :: 0 :: 13 :: 42 :: 89 :: 180 :: 0 :: 99 :: 4 :: 96 :: 181 :: 0 :: 99 :: 42 :: 180 :: dt127_8
noncomputable def dt127_6 : List Nat := 5 :: 160 :: 0 :: 7 :: 3 :: 167 :: 0 :: 4 :: 27 :: 181 :: 0 :: 123 :: 42 :: 180 :: 0 :: 116 :: dt127_7
noncomputable def dt127_5 : List Nat := 0 :: 4 :: 6 :: 181 :: 0 :: 116 :: 42 :: 9 :: 181 :: 0 :: 119 :: 42 :: 42 :: 180 :: 0 :: 116 :: dt127_6
noncomputable def dt127_4 : List Nat := 153 :: 0 :: 7 :: 4 :: 167 :: 0 :: 15 :: 27 :: 184 :: 0 :: 113 :: 153 :: 0 :: 7 :: 5 :: 167 :: dt127_5
noncomputable def dt127_3 : List Nat := 0 :: 105 :: 60 :: 42 :: 27 :: 156 :: 0 :: 7 :: 3 :: 167 :: 0 :: 26 :: 27 :: 184 :: 0 :: 109 :: dt127_4
noncomputable def dt127_2 : List Nat := 255 :: 233 :: 42 :: 42 :: 180 :: 0 :: 102 :: 181 :: 0 :: 99 :: 42 :: 42 :: 180 :: 0 :: 102 :: 182 :: dt127_3
noncomputable def dt127_1 : List Nat := 16 :: 32 :: 160 :: 0 :: 16 :: 42 :: 89 :: 180 :: 0 :: 102 :: 4 :: 96 :: 181 :: 0 :: 102 :: 167 :: dt127_2
noncomputable def dt127_0 : List Nat := 42 :: 42 :: 180 :: 0 :: 99 :: 181 :: 0 :: 102 :: 42 :: 42 :: 180 :: 0 :: 102 :: 182 :: 0 :: 105 :: dt127_1
theorem dw127_0 : dn cX9_advance 0 = dt127_0 := by decide +kernel
theorem dw127_1 : dn cX9_advance 16 = dt127_1 := dn_w dw127_0 16 rfl
theorem dw127_2 : dn cX9_advance 32 = dt127_2 := dn_w dw127_1 16 rfl
theorem dw127_3 : dn cX9_advance 48 = dt127_3 := dn_w dw127_2 16 rfl
theorem dw127_4 : dn cX9_advance 64 = dt127_4 := dn_w dw127_3 16 rfl
theorem dw127_5 : dn cX9_advance 80 = dt127_5 := dn_w dw127_4 16 rfl
theorem dw127_6 : dn cX9_advance 96 = dt127_6 := dn_w dw127_5 16 rfl
theorem dw127_7 : dn cX9_advance 112 = dt127_7 := dn_w dw127_6 16 rfl
theorem dw127_8 : dn cX9_advance 128 = dt127_8 := dn_w dw127_7 16 rfl
theorem dw127_9 : dn cX9_advance 144 = dt127_9 := dn_w dw127_8 16 rfl
theorem dw127_10 : dn cX9_advance 160 = dt127_10 := dn_w dw127_9 16 rfl
theorem dw127_11 : dn cX9_advance 176 = dt127_11 := dn_w dw127_10 16 rfl
theorem dw127_12 : dn cX9_advance 192 = dt127_12 := dn_w dw127_11 16 rfl
theorem dw127_13 : dn cX9_advance 208 = dt127_13 := dn_w dw127_12 16 rfl
theorem dw127_14 : dn cX9_advance 224 = dt127_14 := dn_w dw127_13 16 rfl
theorem dw127_15 : dn cX9_advance 240 = dt127_15 := dn_w dw127_14 16 rfl
theorem dw127_16 : dn cX9_advance 256 = dt127_16 := dn_w dw127_15 16 rfl
theorem dw127_17 : dn cX9_advance 272 = dt127_17 := dn_w dw127_16 16 rfl
theorem dX9_advance_0 : decode cX9_advance 0 = .ok (.aload_n 0, 1) := dop_42 (dn_w dw127_0 0 rfl)
theorem dX9_advance_1 : decode cX9_advance 1 = .ok (.aload_n 0, 1) := dop_42 (dn_w dw127_0 1 rfl)
theorem dX9_advance_2 : decode cX9_advance 2 = .ok (.getfield 99, 3) := dop_180 (dn_w dw127_0 2 rfl) rfl
theorem dX9_advance_5 : decode cX9_advance 5 = .ok (.putfield 102, 3) := dop_181 (dn_w dw127_0 5 rfl) rfl
theorem dX9_advance_8 : decode cX9_advance 8 = .ok (.aload_n 0, 1) := dop_42 (dn_w dw127_0 8 rfl)
theorem dX9_advance_9 : decode cX9_advance 9 = .ok (.aload_n 0, 1) := dop_42 (dn_w dw127_0 9 rfl)
theorem dX9_advance_10 : decode cX9_advance 10 = .ok (.getfield 102, 3) := dop_180 (dn_w dw127_0 10 rfl) rfl
theorem dX9_advance_13 : decode cX9_advance 13 = .ok (.invokevirtual 105, 3) := dop_182 (dn_w dw127_0 13 rfl) rfl
theorem dX9_advance_16 : decode cX9_advance 16 = .ok (.bipush 32, 2) := dop_16 (dn_w dw127_1 0 rfl) rfl
theorem dX9_advance_18 : decode cX9_advance 18 = .ok (.if_icmp .ne 16, 3) := dop_160 (dn_w dw127_1 2 rfl) rfl
theorem dX9_advance_21 : decode cX9_advance 21 = .ok (.aload_n 0, 1) := dop_42 (dn_w dw127_1 5 rfl)
theorem dX9_advance_22 : decode cX9_advance 22 = .ok (.dup, 1) := dop_89 (dn_w dw127_1 6 rfl)
theorem dX9_advance_23 : decode cX9_advance 23 = .ok (.getfield 102, 3) := dop_180 (dn_w dw127_1 7 rfl) rfl
theorem dX9_advance_26 : decode cX9_advance 26 = .ok (.iconst 1, 1) := dop_4 (dn_w dw127_1 10 rfl)
theorem dX9_advance_27 : decode cX9_advance 27 = .ok (.iadd, 1) := dop_96 (dn_w dw127_1 11 rfl)
theorem dX9_advance_28 : decode cX9_advance 28 = .ok (.putfield 102, 3) := dop_181 (dn_w dw127_1 12 rfl) rfl
theorem dX9_advance_31 : decode cX9_advance 31 = .ok (.goto (-23), 3) := dop_167 (dn_w dw127_1 15 rfl) rfl
theorem dX9_advance_34 : decode cX9_advance 34 = .ok (.aload_n 0, 1) := dop_42 (dn_w dw127_2 2 rfl)
theorem dX9_advance_35 : decode cX9_advance 35 = .ok (.aload_n 0, 1) := dop_42 (dn_w dw127_2 3 rfl)
theorem dX9_advance_36 : decode cX9_advance 36 = .ok (.getfield 102, 3) := dop_180 (dn_w dw127_2 4 rfl) rfl
theorem dX9_advance_39 : decode cX9_advance 39 = .ok (.putfield 99, 3) := dop_181 (dn_w dw127_2 7 rfl) rfl
theorem dX9_advance_42 : decode cX9_advance 42 = .ok (.aload_n 0, 1) := dop_42 (dn_w dw127_2 10 rfl)
theorem dX9_advance_43 : decode cX9_advance 43 = .ok (.aload_n 0, 1) := dop_42 (dn_w dw127_2 11 rfl)
theorem dX9_advance_44 : decode cX9_advance 44 = .ok (.getfield 102, 3) := dop_180 (dn_w dw127_2 12 rfl) rfl
theorem dX9_advance_47 : decode cX9_advance 47 = .ok (.invokevirtual 105, 3) := dop_182 (dn_w dw127_2 15 rfl) rfl
theorem dX9_advance_50 : decode cX9_advance 50 = .ok (.istore_n 1, 1) := dop_60 (dn_w dw127_3 2 rfl)
theorem dX9_advance_51 : decode cX9_advance 51 = .ok (.aload_n 0, 1) := dop_42 (dn_w dw127_3 3 rfl)
theorem dX9_advance_52 : decode cX9_advance 52 = .ok (.iload_n 1, 1) := dop_27 (dn_w dw127_3 4 rfl)
theorem dX9_advance_53 : decode cX9_advance 53 = .ok (.ifCond .ge 7, 3) := dop_156 (dn_w dw127_3 5 rfl) rfl
theorem dX9_advance_56 : decode cX9_advance 56 = .ok (.iconst 0, 1) := dop_3 (dn_w dw127_3 8 rfl)
theorem dX9_advance_57 : decode cX9_advance 57 = .ok (.goto 26, 3) := dop_167 (dn_w dw127_3 9 rfl) rfl
theorem dX9_advance_60 : decode cX9_advance 60 = .ok (.iload_n 1, 1) := dop_27 (dn_w dw127_3 12 rfl)
theorem dX9_advance_61 : decode cX9_advance 61 = .ok (.invokestatic 109, 3) := dop_184 (dn_w dw127_3 13 rfl) rfl
theorem dX9_advance_64 : decode cX9_advance 64 = .ok (.ifCond .eq 7, 3) := dop_153 (dn_w dw127_4 0 rfl) rfl
theorem dX9_advance_67 : decode cX9_advance 67 = .ok (.iconst 1, 1) := dop_4 (dn_w dw127_4 3 rfl)
theorem dX9_advance_68 : decode cX9_advance 68 = .ok (.goto 15, 3) := dop_167 (dn_w dw127_4 4 rfl) rfl
theorem dX9_advance_71 : decode cX9_advance 71 = .ok (.iload_n 1, 1) := dop_27 (dn_w dw127_4 7 rfl)
theorem dX9_advance_72 : decode cX9_advance 72 = .ok (.invokestatic 113, 3) := dop_184 (dn_w dw127_4 8 rfl) rfl
theorem dX9_advance_75 : decode cX9_advance 75 = .ok (.ifCond .eq 7, 3) := dop_153 (dn_w dw127_4 11 rfl) rfl
theorem dX9_advance_78 : decode cX9_advance 78 = .ok (.iconst 2, 1) := dop_5 (dn_w dw127_4 14 rfl)
theorem dX9_advance_79 : decode cX9_advance 79 = .ok (.goto 4, 3) := dop_167 (dn_w dw127_4 15 rfl) rfl
theorem dX9_advance_82 : decode cX9_advance 82 = .ok (.iconst 3, 1) := dop_6 (dn_w dw127_5 2 rfl)
theorem dX9_advance_83 : decode cX9_advance 83 = .ok (.putfield 116, 3) := dop_181 (dn_w dw127_5 3 rfl) rfl
theorem dX9_advance_86 : decode cX9_advance 86 = .ok (.aload_n 0, 1) := dop_42 (dn_w dw127_5 6 rfl)
theorem dX9_advance_87 : decode cX9_advance 87 = .ok (.lconst 0, 1) := dop_9 (dn_w dw127_5 7 rfl)
theorem dX9_advance_88 : decode cX9_advance 88 = .ok (.putfield 119, 3) := dop_181 (dn_w dw127_5 8 rfl) rfl
theorem dX9_advance_91 : decode cX9_advance 91 = .ok (.aload_n 0, 1) := dop_42 (dn_w dw127_5 11 rfl)
theorem dX9_advance_92 : decode cX9_advance 92 = .ok (.aload_n 0, 1) := dop_42 (dn_w dw127_5 12 rfl)
theorem dX9_advance_93 : decode cX9_advance 93 = .ok (.getfield 116, 3) := dop_180 (dn_w dw127_5 13 rfl) rfl
theorem dX9_advance_96 : decode cX9_advance 96 = .ok (.iconst 2, 1) := dop_5 (dn_w dw127_6 0 rfl)
theorem dX9_advance_97 : decode cX9_advance 97 = .ok (.if_icmp .ne 7, 3) := dop_160 (dn_w dw127_6 1 rfl) rfl
theorem dX9_advance_100 : decode cX9_advance 100 = .ok (.iconst 0, 1) := dop_3 (dn_w dw127_6 4 rfl)
theorem dX9_advance_101 : decode cX9_advance 101 = .ok (.goto 4, 3) := dop_167 (dn_w dw127_6 5 rfl) rfl
theorem dX9_advance_104 : decode cX9_advance 104 = .ok (.iload_n 1, 1) := dop_27 (dn_w dw127_6 8 rfl)
theorem dX9_advance_105 : decode cX9_advance 105 = .ok (.putfield 123, 3) := dop_181 (dn_w dw127_6 9 rfl) rfl
theorem dX9_advance_108 : decode cX9_advance 108 = .ok (.aload_n 0, 1) := dop_42 (dn_w dw127_6 12 rfl)
theorem dX9_advance_109 : decode cX9_advance 109 = .ok (.getfield 116, 3) := dop_180 (dn_w dw127_6 13 rfl) rfl
theorem dX9_advance_112 : decode cX9_advance 112 = .ok (.iconst 3, 1) := dop_6 (dn_w dw127_7 0 rfl)
theorem dX9_advance_113 : decode cX9_advance 113 = .ok (.if_icmp .ne 13, 3) := dop_160 (dn_w dw127_7 1 rfl) rfl
theorem dX9_advance_116 : decode cX9_advance 116 = .ok (.aload_n 0, 1) := dop_42 (dn_w dw127_7 4 rfl)
theorem dX9_advance_117 : decode cX9_advance 117 = .ok (.dup, 1) := dop_89 (dn_w dw127_7 5 rfl)
theorem dX9_advance_118 : decode cX9_advance 118 = .ok (.getfield 99, 3) := dop_180 (dn_w dw127_7 6 rfl) rfl
theorem dX9_advance_121 : decode cX9_advance 121 = .ok (.iconst 1, 1) := dop_4 (dn_w dw127_7 9 rfl)
theorem dX9_advance_122 : decode cX9_advance 122 = .ok (.iadd, 1) := dop_96 (dn_w dw127_7 10 rfl)
theorem dX9_advance_123 : decode cX9_advance 123 = .ok (.putfield 99, 3) := dop_181 (dn_w dw127_7 11 rfl) rfl
theorem dX9_advance_126 : decode cX9_advance 126 = .ok (.aload_n 0, 1) := dop_42 (dn_w dw127_7 14 rfl)
theorem dX9_advance_127 : decode cX9_advance 127 = .ok (.getfield 116, 3) := dop_180 (dn_w dw127_7 15 rfl) rfl
theorem dX9_advance_130 : decode cX9_advance 130 = .ok (.iconst 1, 1) := dop_4 (dn_w dw127_8 2 rfl)
theorem dX9_advance_131 : decode cX9_advance 131 = .ok (.if_icmp .ne 76, 3) := dop_160 (dn_w dw127_8 3 rfl) rfl
theorem dX9_advance_134 : decode cX9_advance 134 = .ok (.aload_n 0, 1) := dop_42 (dn_w dw127_8 6 rfl)
theorem dX9_advance_135 : decode cX9_advance 135 = .ok (.aload_n 0, 1) := dop_42 (dn_w dw127_8 7 rfl)
theorem dX9_advance_136 : decode cX9_advance 136 = .ok (.getfield 99, 3) := dop_180 (dn_w dw127_8 8 rfl) rfl
theorem dX9_advance_139 : decode cX9_advance 139 = .ok (.invokevirtual 105, 3) := dop_182 (dn_w dw127_8 11 rfl) rfl
theorem dX9_advance_142 : decode cX9_advance 142 = .ok (.invokestatic 109, 3) := dop_184 (dn_w dw127_8 14 rfl) rfl
theorem dX9_advance_145 : decode cX9_advance 145 = .ok (.ifCond .eq 62, 3) := dop_153 (dn_w dw127_9 1 rfl) rfl
theorem dX9_advance_148 : decode cX9_advance 148 = .ok (.aload_n 0, 1) := dop_42 (dn_w dw127_9 4 rfl)
theorem dX9_advance_149 : decode cX9_advance 149 = .ok (.aload_n 0, 1) := dop_42 (dn_w dw127_9 5 rfl)
theorem dX9_advance_150 : decode cX9_advance 150 = .ok (.getfield 99, 3) := dop_180 (dn_w dw127_9 6 rfl) rfl
theorem dX9_advance_153 : decode cX9_advance 153 = .ok (.aload_n 0, 1) := dop_42 (dn_w dw127_9 9 rfl)
theorem dX9_advance_154 : decode cX9_advance 154 = .ok (.getfield 102, 3) := dop_180 (dn_w dw127_9 10 rfl) rfl
theorem dX9_advance_157 : decode cX9_advance 157 = .ok (.isub, 1) := dop_100 (dn_w dw127_9 13 rfl)
theorem dX9_advance_158 : decode cX9_advance 158 = .ok (.bipush 8, 2) := dop_16 (dn_w dw127_9 14 rfl) rfl
theorem dX9_advance_160 : decode cX9_advance 160 = .ok (.if_icmp .ge 28, 3) := dop_162 (dn_w dw127_10 0 rfl) rfl
theorem dX9_advance_163 : decode cX9_advance 163 = .ok (.ldc2_w 126, 3) := dop_20 (dn_w dw127_10 3 rfl) rfl
theorem dX9_advance_166 : decode cX9_advance 166 = .ok (.aload_n 0, 1) := dop_42 (dn_w dw127_10 6 rfl)
theorem dX9_advance_167 : decode cX9_advance 167 = .ok (.getfield 119, 3) := dop_180 (dn_w dw127_10 7 rfl) rfl
theorem dX9_advance_170 : decode cX9_advance 170 = .ok (.lmul, 1) := dop_105 (dn_w dw127_10 10 rfl)
theorem dX9_advance_171 : decode cX9_advance 171 = .ok (.aload_n 0, 1) := dop_42 (dn_w dw127_10 11 rfl)
theorem dX9_advance_172 : decode cX9_advance 172 = .ok (.aload_n 0, 1) := dop_42 (dn_w dw127_10 12 rfl)
theorem dX9_advance_173 : decode cX9_advance 173 = .ok (.getfield 99, 3) := dop_180 (dn_w dw127_10 13 rfl) rfl
theorem dX9_advance_176 : decode cX9_advance 176 = .ok (.invokevirtual 105, 3) := dop_182 (dn_w dw127_11 0 rfl) rfl
theorem dX9_advance_179 : decode cX9_advance 179 = .ok (.i2l, 1) := dop_133 (dn_w dw127_11 3 rfl)
theorem dX9_advance_180 : decode cX9_advance 180 = .ok (.ladd, 1) := dop_97 (dn_w dw127_11 4 rfl)
theorem dX9_advance_181 : decode cX9_advance 181 = .ok (.ldc2_w 128, 3) := dop_20 (dn_w dw127_11 5 rfl) rfl
theorem dX9_advance_184 : decode cX9_advance 184 = .ok (.lsub, 1) := dop_101 (dn_w dw127_11 8 rfl)
theorem dX9_advance_185 : decode cX9_advance 185 = .ok (.goto 6, 3) := dop_167 (dn_w dw127_11 9 rfl) rfl
theorem dX9_advance_188 : decode cX9_advance 188 = .ok (.ldc2_w 130, 3) := dop_20 (dn_w dw127_11 12 rfl) rfl
theorem dX9_advance_191 : decode cX9_advance 191 = .ok (.putfield 119, 3) := dop_181 (dn_w dw127_11 15 rfl) rfl
theorem dX9_advance_194 : decode cX9_advance 194 = .ok (.aload_n 0, 1) := dop_42 (dn_w dw127_12 2 rfl)
theorem dX9_advance_195 : decode cX9_advance 195 = .ok (.dup, 1) := dop_89 (dn_w dw127_12 3 rfl)
theorem dX9_advance_196 : decode cX9_advance 196 = .ok (.getfield 99, 3) := dop_180 (dn_w dw127_12 4 rfl) rfl
theorem dX9_advance_199 : decode cX9_advance 199 = .ok (.iconst 1, 1) := dop_4 (dn_w dw127_12 7 rfl)
theorem dX9_advance_200 : decode cX9_advance 200 = .ok (.iadd, 1) := dop_96 (dn_w dw127_12 8 rfl)
theorem dX9_advance_201 : decode cX9_advance 201 = .ok (.putfield 99, 3) := dop_181 (dn_w dw127_12 9 rfl) rfl
theorem dX9_advance_204 : decode cX9_advance 204 = .ok (.goto (-78), 3) := dop_167 (dn_w dw127_12 12 rfl) rfl
theorem dX9_advance_207 : decode cX9_advance 207 = .ok (.aload_n 0, 1) := dop_42 (dn_w dw127_12 15 rfl)
theorem dX9_advance_208 : decode cX9_advance 208 = .ok (.getfield 116, 3) := dop_180 (dn_w dw127_13 0 rfl) rfl
theorem dX9_advance_211 : decode cX9_advance 211 = .ok (.iconst 2, 1) := dop_5 (dn_w dw127_13 3 rfl)
theorem dX9_advance_212 : decode cX9_advance 212 = .ok (.if_icmp .ne 70, 3) := dop_160 (dn_w dw127_13 4 rfl) rfl
theorem dX9_advance_215 : decode cX9_advance 215 = .ok (.aload_n 0, 1) := dop_42 (dn_w dw127_13 7 rfl)
theorem dX9_advance_216 : decode cX9_advance 216 = .ok (.aload_n 0, 1) := dop_42 (dn_w dw127_13 8 rfl)
theorem dX9_advance_217 : decode cX9_advance 217 = .ok (.getfield 99, 3) := dop_180 (dn_w dw127_13 9 rfl) rfl
theorem dX9_advance_220 : decode cX9_advance 220 = .ok (.invokevirtual 105, 3) := dop_182 (dn_w dw127_13 12 rfl) rfl
theorem dX9_advance_223 : decode cX9_advance 223 = .ok (.invokestatic 113, 3) := dop_184 (dn_w dw127_13 15 rfl) rfl
theorem dX9_advance_226 : decode cX9_advance 226 = .ok (.ifCond .eq 56, 3) := dop_153 (dn_w dw127_14 2 rfl) rfl
theorem dX9_advance_229 : decode cX9_advance 229 = .ok (.aload_n 0, 1) := dop_42 (dn_w dw127_14 5 rfl)
theorem dX9_advance_230 : decode cX9_advance 230 = .ok (.aload_n 0, 1) := dop_42 (dn_w dw127_14 6 rfl)
theorem dX9_advance_231 : decode cX9_advance 231 = .ok (.getfield 99, 3) := dop_180 (dn_w dw127_14 7 rfl) rfl
theorem dX9_advance_234 : decode cX9_advance 234 = .ok (.aload_n 0, 1) := dop_42 (dn_w dw127_14 10 rfl)
theorem dX9_advance_235 : decode cX9_advance 235 = .ok (.getfield 102, 3) := dop_180 (dn_w dw127_14 11 rfl) rfl
theorem dX9_advance_238 : decode cX9_advance 238 = .ok (.isub, 1) := dop_100 (dn_w dw127_14 14 rfl)
theorem dX9_advance_239 : decode cX9_advance 239 = .ok (.iconst 2, 1) := dop_5 (dn_w dw127_14 15 rfl)
theorem dX9_advance_240 : decode cX9_advance 240 = .ok (.if_icmp .ge 25, 3) := dop_162 (dn_w dw127_15 0 rfl) rfl
theorem dX9_advance_243 : decode cX9_advance 243 = .ok (.bipush 10, 2) := dop_16 (dn_w dw127_15 3 rfl) rfl
theorem dX9_advance_245 : decode cX9_advance 245 = .ok (.aload_n 0, 1) := dop_42 (dn_w dw127_15 5 rfl)
theorem dX9_advance_246 : decode cX9_advance 246 = .ok (.getfield 123, 3) := dop_180 (dn_w dw127_15 6 rfl) rfl
theorem dX9_advance_249 : decode cX9_advance 249 = .ok (.imul, 1) := dop_104 (dn_w dw127_15 9 rfl)
theorem dX9_advance_250 : decode cX9_advance 250 = .ok (.aload_n 0, 1) := dop_42 (dn_w dw127_15 10 rfl)
theorem dX9_advance_251 : decode cX9_advance 251 = .ok (.aload_n 0, 1) := dop_42 (dn_w dw127_15 11 rfl)
theorem dX9_advance_252 : decode cX9_advance 252 = .ok (.getfield 99, 3) := dop_180 (dn_w dw127_15 12 rfl) rfl
theorem dX9_advance_255 : decode cX9_advance 255 = .ok (.invokevirtual 105, 3) := dop_182 (dn_w dw127_15 15 rfl) rfl
theorem dX9_advance_258 : decode cX9_advance 258 = .ok (.iadd, 1) := dop_96 (dn_w dw127_16 2 rfl)
theorem dX9_advance_259 : decode cX9_advance 259 = .ok (.bipush 48, 2) := dop_16 (dn_w dw127_16 3 rfl) rfl
theorem dX9_advance_261 : decode cX9_advance 261 = .ok (.isub, 1) := dop_100 (dn_w dw127_16 5 rfl)
theorem dX9_advance_262 : decode cX9_advance 262 = .ok (.goto 4, 3) := dop_167 (dn_w dw127_16 6 rfl) rfl
theorem dX9_advance_265 : decode cX9_advance 265 = .ok (.iconst (-1), 1) := dop_2 (dn_w dw127_16 9 rfl)
theorem dX9_advance_266 : decode cX9_advance 266 = .ok (.putfield 123, 3) := dop_181 (dn_w dw127_16 10 rfl) rfl
theorem dX9_advance_269 : decode cX9_advance 269 = .ok (.aload_n 0, 1) := dop_42 (dn_w dw127_16 13 rfl)
theorem dX9_advance_270 : decode cX9_advance 270 = .ok (.dup, 1) := dop_89 (dn_w dw127_16 14 rfl)
theorem dX9_advance_271 : decode cX9_advance 271 = .ok (.getfield 99, 3) := dop_180 (dn_w dw127_16 15 rfl) rfl
theorem dX9_advance_274 : decode cX9_advance 274 = .ok (.iconst 1, 1) := dop_4 (dn_w dw127_17 2 rfl)
theorem dX9_advance_275 : decode cX9_advance 275 = .ok (.iadd, 1) := dop_96 (dn_w dw127_17 3 rfl)
theorem dX9_advance_276 : decode cX9_advance 276 = .ok (.putfield 99, 3) := dop_181 (dn_w dw127_17 4 rfl) rfl
theorem dX9_advance_279 : decode cX9_advance 279 = .ok (.goto (-72), 3) := dop_167 (dn_w dw127_17 7 rfl) rfl
theorem dX9_advance_282 : decode cX9_advance 282 = .ok (.return_, 1) := dop_177 (dn_w dw127_17 10 rfl)
noncomputable def dt128_1 : List Nat := 7 :: 4 :: 167 :: 0 :: 4 :: 3 :: 172 :: []
noncomputable def dt128_0 : List Nat := 42 :: 180 :: 0 :: 116 :: 4 :: 160 :: 0 :: 16 :: 42 :: 180 :: 0 :: 119 :: 31 :: 148 :: 154 :: 0 :: dt128_1
theorem dw128_0 : dn cX9_isWord 0 = dt128_0 := by decide +kernel
theorem dw128_1 : dn cX9_isWord 16 = dt128_1 := dn_w dw128_0 16 rfl
theorem dX9_isWord_0 : decode cX9_isWord 0 = .ok (.aload_n 0, 1) := dop_42 (dn_w dw128_0 0 rfl)
theorem dX9_isWord_1 : decode cX9_isWord 1 = .ok (.getfield 116, 3) := dop_180 (dn_w dw128_0 1 rfl) rfl
theorem dX9_isWord_4 : decode cX9_isWord 4 = .ok (.iconst 1, 1) := dop_4 (dn_w dw128_0 4 rfl)
theorem dX9_isWord_5 : decode cX9_isWord 5 = .ok (.if_icmp .ne 16, 3) := dop_160 (dn_w dw128_0 5 rfl) rfl
theorem dX9_isWord_8 : decode cX9_isWord 8 = .ok (.aload_n 0, 1) := dop_42 (dn_w dw128_0 8 rfl)
theorem dX9_isWord_9 : decode cX9_isWord 9 = .ok (.getfield 119, 3) := dop_180 (dn_w dw128_0 9 rfl) rfl
theorem dX9_isWord_12 : decode cX9_isWord 12 = .ok (.lload_n 1, 1) := dop_31 (dn_w dw128_0 12 rfl)
theorem dX9_isWord_13 : decode cX9_isWord 13 = .ok (.lcmp, 1) := dop_148 (dn_w dw128_0 13 rfl)
theorem dX9_isWord_14 : decode cX9_isWord 14 = .ok (.ifCond .ne 7, 3) := dop_154 (dn_w dw128_0 14 rfl) rfl
theorem dX9_isWord_17 : decode cX9_isWord 17 = .ok (.iconst 1, 1) := dop_4 (dn_w dw128_1 1 rfl)
theorem dX9_isWord_18 : decode cX9_isWord 18 = .ok (.goto 4, 3) := dop_167 (dn_w dw128_1 2 rfl) rfl
theorem dX9_isWord_21 : decode cX9_isWord 21 = .ok (.iconst 0, 1) := dop_3 (dn_w dw128_1 5 rfl)
theorem dX9_isWord_22 : decode cX9_isWord 22 = .ok (.ireturn, 1) := dop_172 (dn_w dw128_1 6 rfl)
noncomputable def dt129_1 : List Nat := 4 :: 167 :: 0 :: 4 :: 3 :: 172 :: []
noncomputable def dt129_0 : List Nat := 42 :: 180 :: 0 :: 116 :: 6 :: 160 :: 0 :: 15 :: 42 :: 180 :: 0 :: 123 :: 27 :: 160 :: 0 :: 7 :: dt129_1
theorem dw129_0 : dn cX9_isMark 0 = dt129_0 := by decide +kernel
theorem dw129_1 : dn cX9_isMark 16 = dt129_1 := dn_w dw129_0 16 rfl
theorem dX9_isMark_0 : decode cX9_isMark 0 = .ok (.aload_n 0, 1) := dop_42 (dn_w dw129_0 0 rfl)
theorem dX9_isMark_1 : decode cX9_isMark 1 = .ok (.getfield 116, 3) := dop_180 (dn_w dw129_0 1 rfl) rfl
theorem dX9_isMark_4 : decode cX9_isMark 4 = .ok (.iconst 3, 1) := dop_6 (dn_w dw129_0 4 rfl)
theorem dX9_isMark_5 : decode cX9_isMark 5 = .ok (.if_icmp .ne 15, 3) := dop_160 (dn_w dw129_0 5 rfl) rfl
theorem dX9_isMark_8 : decode cX9_isMark 8 = .ok (.aload_n 0, 1) := dop_42 (dn_w dw129_0 8 rfl)
theorem dX9_isMark_9 : decode cX9_isMark 9 = .ok (.getfield 123, 3) := dop_180 (dn_w dw129_0 9 rfl) rfl
theorem dX9_isMark_12 : decode cX9_isMark 12 = .ok (.iload_n 1, 1) := dop_27 (dn_w dw129_0 12 rfl)
theorem dX9_isMark_13 : decode cX9_isMark 13 = .ok (.if_icmp .ne 7, 3) := dop_160 (dn_w dw129_0 13 rfl) rfl
theorem dX9_isMark_16 : decode cX9_isMark 16 = .ok (.iconst 1, 1) := dop_4 (dn_w dw129_1 0 rfl)
theorem dX9_isMark_17 : decode cX9_isMark 17 = .ok (.goto 4, 3) := dop_167 (dn_w dw129_1 1 rfl) rfl
theorem dX9_isMark_20 : decode cX9_isMark 20 = .ok (.iconst 0, 1) := dop_3 (dn_w dw129_1 4 rfl)
theorem dX9_isMark_21 : decode cX9_isMark 21 = .ok (.ireturn, 1) := dop_172 (dn_w dw129_1 5 rfl)
noncomputable def dt130_5 : List Nat := 8 :: 167 :: 0 :: 4 :: 2 :: 172 :: []
noncomputable def dt130_4 : List Nat := 0 :: 7 :: 7 :: 167 :: 0 :: 18 :: 42 :: 20 :: 0 :: 146 :: 182 :: 0 :: 134 :: 153 :: 0 :: 7 :: dt130_5
noncomputable def dt130_3 : List Nat := 134 :: 153 :: 0 :: 7 :: 6 :: 167 :: 0 :: 32 :: 42 :: 20 :: 0 :: 144 :: 182 :: 0 :: 134 :: 153 :: dt130_4
noncomputable def dt130_2 : List Nat := 182 :: 0 :: 134 :: 153 :: 0 :: 7 :: 5 :: 167 :: 0 :: 46 :: 42 :: 20 :: 0 :: 142 :: 182 :: 0 :: dt130_3
noncomputable def dt130_1 : List Nat := 0 :: 138 :: 182 :: 0 :: 134 :: 153 :: 0 :: 7 :: 4 :: 167 :: 0 :: 60 :: 42 :: 20 :: 0 :: 140 :: dt130_2
noncomputable def dt130_0 : List Nat := 42 :: 20 :: 0 :: 132 :: 182 :: 0 :: 134 :: 153 :: 0 :: 7 :: 3 :: 167 :: 0 :: 74 :: 42 :: 20 :: dt130_1
theorem dw130_0 : dn cX9_kindHere 0 = dt130_0 := by decide +kernel
theorem dw130_1 : dn cX9_kindHere 16 = dt130_1 := dn_w dw130_0 16 rfl
theorem dw130_2 : dn cX9_kindHere 32 = dt130_2 := dn_w dw130_1 16 rfl
theorem dw130_3 : dn cX9_kindHere 48 = dt130_3 := dn_w dw130_2 16 rfl
theorem dw130_4 : dn cX9_kindHere 64 = dt130_4 := dn_w dw130_3 16 rfl
theorem dw130_5 : dn cX9_kindHere 80 = dt130_5 := dn_w dw130_4 16 rfl
theorem dX9_kindHere_0 : decode cX9_kindHere 0 = .ok (.aload_n 0, 1) := dop_42 (dn_w dw130_0 0 rfl)
theorem dX9_kindHere_1 : decode cX9_kindHere 1 = .ok (.ldc2_w 132, 3) := dop_20 (dn_w dw130_0 1 rfl) rfl
theorem dX9_kindHere_4 : decode cX9_kindHere 4 = .ok (.invokevirtual 134, 3) := dop_182 (dn_w dw130_0 4 rfl) rfl
theorem dX9_kindHere_7 : decode cX9_kindHere 7 = .ok (.ifCond .eq 7, 3) := dop_153 (dn_w dw130_0 7 rfl) rfl
theorem dX9_kindHere_10 : decode cX9_kindHere 10 = .ok (.iconst 0, 1) := dop_3 (dn_w dw130_0 10 rfl)
theorem dX9_kindHere_11 : decode cX9_kindHere 11 = .ok (.goto 74, 3) := dop_167 (dn_w dw130_0 11 rfl) rfl
theorem dX9_kindHere_14 : decode cX9_kindHere 14 = .ok (.aload_n 0, 1) := dop_42 (dn_w dw130_0 14 rfl)
theorem dX9_kindHere_15 : decode cX9_kindHere 15 = .ok (.ldc2_w 138, 3) := dop_20 (dn_w dw130_0 15 rfl) rfl
theorem dX9_kindHere_18 : decode cX9_kindHere 18 = .ok (.invokevirtual 134, 3) := dop_182 (dn_w dw130_1 2 rfl) rfl
theorem dX9_kindHere_21 : decode cX9_kindHere 21 = .ok (.ifCond .eq 7, 3) := dop_153 (dn_w dw130_1 5 rfl) rfl
theorem dX9_kindHere_24 : decode cX9_kindHere 24 = .ok (.iconst 1, 1) := dop_4 (dn_w dw130_1 8 rfl)
theorem dX9_kindHere_25 : decode cX9_kindHere 25 = .ok (.goto 60, 3) := dop_167 (dn_w dw130_1 9 rfl) rfl
theorem dX9_kindHere_28 : decode cX9_kindHere 28 = .ok (.aload_n 0, 1) := dop_42 (dn_w dw130_1 12 rfl)
theorem dX9_kindHere_29 : decode cX9_kindHere 29 = .ok (.ldc2_w 140, 3) := dop_20 (dn_w dw130_1 13 rfl) rfl
theorem dX9_kindHere_32 : decode cX9_kindHere 32 = .ok (.invokevirtual 134, 3) := dop_182 (dn_w dw130_2 0 rfl) rfl
theorem dX9_kindHere_35 : decode cX9_kindHere 35 = .ok (.ifCond .eq 7, 3) := dop_153 (dn_w dw130_2 3 rfl) rfl
theorem dX9_kindHere_38 : decode cX9_kindHere 38 = .ok (.iconst 2, 1) := dop_5 (dn_w dw130_2 6 rfl)
theorem dX9_kindHere_39 : decode cX9_kindHere 39 = .ok (.goto 46, 3) := dop_167 (dn_w dw130_2 7 rfl) rfl
theorem dX9_kindHere_42 : decode cX9_kindHere 42 = .ok (.aload_n 0, 1) := dop_42 (dn_w dw130_2 10 rfl)
theorem dX9_kindHere_43 : decode cX9_kindHere 43 = .ok (.ldc2_w 142, 3) := dop_20 (dn_w dw130_2 11 rfl) rfl
theorem dX9_kindHere_46 : decode cX9_kindHere 46 = .ok (.invokevirtual 134, 3) := dop_182 (dn_w dw130_2 14 rfl) rfl
theorem dX9_kindHere_49 : decode cX9_kindHere 49 = .ok (.ifCond .eq 7, 3) := dop_153 (dn_w dw130_3 1 rfl) rfl
theorem dX9_kindHere_52 : decode cX9_kindHere 52 = .ok (.iconst 3, 1) := dop_6 (dn_w dw130_3 4 rfl)
theorem dX9_kindHere_53 : decode cX9_kindHere 53 = .ok (.goto 32, 3) := dop_167 (dn_w dw130_3 5 rfl) rfl
theorem dX9_kindHere_56 : decode cX9_kindHere 56 = .ok (.aload_n 0, 1) := dop_42 (dn_w dw130_3 8 rfl)
theorem dX9_kindHere_57 : decode cX9_kindHere 57 = .ok (.ldc2_w 144, 3) := dop_20 (dn_w dw130_3 9 rfl) rfl
theorem dX9_kindHere_60 : decode cX9_kindHere 60 = .ok (.invokevirtual 134, 3) := dop_182 (dn_w dw130_3 12 rfl) rfl
theorem dX9_kindHere_63 : decode cX9_kindHere 63 = .ok (.ifCond .eq 7, 3) := dop_153 (dn_w dw130_3 15 rfl) rfl
theorem dX9_kindHere_66 : decode cX9_kindHere 66 = .ok (.iconst 4, 1) := dop_7 (dn_w dw130_4 2 rfl)
theorem dX9_kindHere_67 : decode cX9_kindHere 67 = .ok (.goto 18, 3) := dop_167 (dn_w dw130_4 3 rfl) rfl
theorem dX9_kindHere_70 : decode cX9_kindHere 70 = .ok (.aload_n 0, 1) := dop_42 (dn_w dw130_4 6 rfl)
theorem dX9_kindHere_71 : decode cX9_kindHere 71 = .ok (.ldc2_w 146, 3) := dop_20 (dn_w dw130_4 7 rfl) rfl
theorem dX9_kindHere_74 : decode cX9_kindHere 74 = .ok (.invokevirtual 134, 3) := dop_182 (dn_w dw130_4 10 rfl) rfl
theorem dX9_kindHere_77 : decode cX9_kindHere 77 = .ok (.ifCond .eq 7, 3) := dop_153 (dn_w dw130_4 13 rfl) rfl
theorem dX9_kindHere_80 : decode cX9_kindHere 80 = .ok (.iconst 5, 1) := dop_8 (dn_w dw130_5 0 rfl)
theorem dX9_kindHere_81 : decode cX9_kindHere 81 = .ok (.goto 4, 3) := dop_167 (dn_w dw130_5 1 rfl) rfl
theorem dX9_kindHere_84 : decode cX9_kindHere 84 = .ok (.iconst (-1), 1) := dop_2 (dn_w dw130_5 4 rfl)
theorem dX9_kindHere_85 : decode cX9_kindHere 85 = .ok (.ireturn, 1) := dop_172 (dn_w dw130_5 5 rfl)
noncomputable def dt131_3 : List Nat := 152 :: 29 :: 172 :: []
noncomputable def dt131_2 : List Nat := 0 :: 4 :: 3 :: 181 :: 0 :: 148 :: 42 :: 180 :: 0 :: 148 :: 153 :: 0 :: 7 :: 42 :: 182 :: 0 :: dt131_3
noncomputable def dt131_1 : List Nat := 116 :: 5 :: 160 :: 0 :: 16 :: 29 :: 27 :: 28 :: 184 :: 0 :: 87 :: 153 :: 0 :: 7 :: 4 :: 167 :: dt131_2
noncomputable def dt131_0 : List Nat := 42 :: 180 :: 0 :: 123 :: 62 :: 42 :: 42 :: 180 :: 0 :: 148 :: 153 :: 0 :: 24 :: 42 :: 180 :: 0 :: dt131_1
theorem dw131_0 : dn cX9_wantNumber 0 = dt131_0 := by decide +kernel
theorem dw131_1 : dn cX9_wantNumber 16 = dt131_1 := dn_w dw131_0 16 rfl
theorem dw131_2 : dn cX9_wantNumber 32 = dt131_2 := dn_w dw131_1 16 rfl
theorem dw131_3 : dn cX9_wantNumber 48 = dt131_3 := dn_w dw131_2 16 rfl
theorem dX9_wantNumber_0 : decode cX9_wantNumber 0 = .ok (.aload_n 0, 1) := dop_42 (dn_w dw131_0 0 rfl)
theorem dX9_wantNumber_1 : decode cX9_wantNumber 1 = .ok (.getfield 123, 3) := dop_180 (dn_w dw131_0 1 rfl) rfl
theorem dX9_wantNumber_4 : decode cX9_wantNumber 4 = .ok (.istore_n 3, 1) := dop_62 (dn_w dw131_0 4 rfl)
theorem dX9_wantNumber_5 : decode cX9_wantNumber 5 = .ok (.aload_n 0, 1) := dop_42 (dn_w dw131_0 5 rfl)
theorem dX9_wantNumber_6 : decode cX9_wantNumber 6 = .ok (.aload_n 0, 1) := dop_42 (dn_w dw131_0 6 rfl)
theorem dX9_wantNumber_7 : decode cX9_wantNumber 7 = .ok (.getfield 148, 3) := dop_180 (dn_w dw131_0 7 rfl) rfl
theorem dX9_wantNumber_10 : decode cX9_wantNumber 10 = .ok (.ifCond .eq 24, 3) := dop_153 (dn_w dw131_0 10 rfl) rfl
theorem dX9_wantNumber_13 : decode cX9_wantNumber 13 = .ok (.aload_n 0, 1) := dop_42 (dn_w dw131_0 13 rfl)
theorem dX9_wantNumber_14 : decode cX9_wantNumber 14 = .ok (.getfield 116, 3) := dop_180 (dn_w dw131_0 14 rfl) rfl
theorem dX9_wantNumber_17 : decode cX9_wantNumber 17 = .ok (.iconst 2, 1) := dop_5 (dn_w dw131_1 1 rfl)
theorem dX9_wantNumber_18 : decode cX9_wantNumber 18 = .ok (.if_icmp .ne 16, 3) := dop_160 (dn_w dw131_1 2 rfl) rfl
theorem dX9_wantNumber_21 : decode cX9_wantNumber 21 = .ok (.iload_n 3, 1) := dop_29 (dn_w dw131_1 5 rfl)
theorem dX9_wantNumber_22 : decode cX9_wantNumber 22 = .ok (.iload_n 1, 1) := dop_27 (dn_w dw131_1 6 rfl)
theorem dX9_wantNumber_23 : decode cX9_wantNumber 23 = .ok (.iload_n 2, 1) := dop_28 (dn_w dw131_1 7 rfl)
theorem dX9_wantNumber_24 : decode cX9_wantNumber 24 = .ok (.invokestatic 87, 3) := dop_184 (dn_w dw131_1 8 rfl) rfl
theorem dX9_wantNumber_27 : decode cX9_wantNumber 27 = .ok (.ifCond .eq 7, 3) := dop_153 (dn_w dw131_1 11 rfl) rfl
theorem dX9_wantNumber_30 : decode cX9_wantNumber 30 = .ok (.iconst 1, 1) := dop_4 (dn_w dw131_1 14 rfl)
theorem dX9_wantNumber_31 : decode cX9_wantNumber 31 = .ok (.goto 4, 3) := dop_167 (dn_w dw131_1 15 rfl) rfl
theorem dX9_wantNumber_34 : decode cX9_wantNumber 34 = .ok (.iconst 0, 1) := dop_3 (dn_w dw131_2 2 rfl)
theorem dX9_wantNumber_35 : decode cX9_wantNumber 35 = .ok (.putfield 148, 3) := dop_181 (dn_w dw131_2 3 rfl) rfl
theorem dX9_wantNumber_38 : decode cX9_wantNumber 38 = .ok (.aload_n 0, 1) := dop_42 (dn_w dw131_2 6 rfl)
theorem dX9_wantNumber_39 : decode cX9_wantNumber 39 = .ok (.getfield 148, 3) := dop_180 (dn_w dw131_2 7 rfl) rfl
theorem dX9_wantNumber_42 : decode cX9_wantNumber 42 = .ok (.ifCond .eq 7, 3) := dop_153 (dn_w dw131_2 10 rfl) rfl
theorem dX9_wantNumber_45 : decode cX9_wantNumber 45 = .ok (.aload_n 0, 1) := dop_42 (dn_w dw131_2 13 rfl)
theorem dX9_wantNumber_46 : decode cX9_wantNumber 46 = .ok (.invokevirtual 152, 3) := dop_182 (dn_w dw131_2 14 rfl) rfl
theorem dX9_wantNumber_49 : decode cX9_wantNumber 49 = .ok (.iload_n 3, 1) := dop_29 (dn_w dw131_3 1 rfl)
theorem dX9_wantNumber_50 : decode cX9_wantNumber 50 = .ok (.ireturn, 1) := dop_172 (dn_w dw131_3 2 rfl)
noncomputable def dt132_2 : List Nat := 42 :: 182 :: 0 :: 152 :: 177 :: []
noncomputable def dt132_1 : List Nat := 7 :: 4 :: 167 :: 0 :: 4 :: 3 :: 181 :: 0 :: 148 :: 42 :: 180 :: 0 :: 148 :: 153 :: 0 :: 7 :: dt132_2
noncomputable def dt132_0 : List Nat := 42 :: 42 :: 180 :: 0 :: 148 :: 153 :: 0 :: 16 :: 42 :: 16 :: 59 :: 182 :: 0 :: 155 :: 153 :: 0 :: dt132_1
theorem dw132_0 : dn cX9_wantEnd 0 = dt132_0 := by decide +kernel
theorem dw132_1 : dn cX9_wantEnd 16 = dt132_1 := dn_w dw132_0 16 rfl
theorem dw132_2 : dn cX9_wantEnd 32 = dt132_2 := dn_w dw132_1 16 rfl
theorem dX9_wantEnd_0 : decode cX9_wantEnd 0 = .ok (.aload_n 0, 1) := dop_42 (dn_w dw132_0 0 rfl)
theorem dX9_wantEnd_1 : decode cX9_wantEnd 1 = .ok (.aload_n 0, 1) := dop_42 (dn_w dw132_0 1 rfl)
theorem dX9_wantEnd_2 : decode cX9_wantEnd 2 = .ok (.getfield 148, 3) := dop_180 (dn_w dw132_0 2 rfl) rfl
theorem dX9_wantEnd_5 : decode cX9_wantEnd 5 = .ok (.ifCond .eq 16, 3) := dop_153 (dn_w dw132_0 5 rfl) rfl
theorem dX9_wantEnd_8 : decode cX9_wantEnd 8 = .ok (.aload_n 0, 1) := dop_42 (dn_w dw132_0 8 rfl)
theorem dX9_wantEnd_9 : decode cX9_wantEnd 9 = .ok (.bipush 59, 2) := dop_16 (dn_w dw132_0 9 rfl) rfl
theorem dX9_wantEnd_11 : decode cX9_wantEnd 11 = .ok (.invokevirtual 155, 3) := dop_182 (dn_w dw132_0 11 rfl) rfl
theorem dX9_wantEnd_14 : decode cX9_wantEnd 14 = .ok (.ifCond .eq 7, 3) := dop_153 (dn_w dw132_0 14 rfl) rfl
theorem dX9_wantEnd_17 : decode cX9_wantEnd 17 = .ok (.iconst 1, 1) := dop_4 (dn_w dw132_1 1 rfl)
theorem dX9_wantEnd_18 : decode cX9_wantEnd 18 = .ok (.goto 4, 3) := dop_167 (dn_w dw132_1 2 rfl) rfl
theorem dX9_wantEnd_21 : decode cX9_wantEnd 21 = .ok (.iconst 0, 1) := dop_3 (dn_w dw132_1 5 rfl)
theorem dX9_wantEnd_22 : decode cX9_wantEnd 22 = .ok (.putfield 148, 3) := dop_181 (dn_w dw132_1 6 rfl) rfl
theorem dX9_wantEnd_25 : decode cX9_wantEnd 25 = .ok (.aload_n 0, 1) := dop_42 (dn_w dw132_1 9 rfl)
theorem dX9_wantEnd_26 : decode cX9_wantEnd 26 = .ok (.getfield 148, 3) := dop_180 (dn_w dw132_1 10 rfl) rfl
theorem dX9_wantEnd_29 : decode cX9_wantEnd 29 = .ok (.ifCond .eq 7, 3) := dop_153 (dn_w dw132_1 13 rfl) rfl
theorem dX9_wantEnd_32 : decode cX9_wantEnd 32 = .ok (.aload_n 0, 1) := dop_42 (dn_w dw132_2 0 rfl)
theorem dX9_wantEnd_33 : decode cX9_wantEnd 33 = .ok (.invokevirtual 152, 3) := dop_182 (dn_w dw132_2 1 rfl) rfl
theorem dX9_wantEnd_36 : decode cX9_wantEnd 36 = .ok (.return_, 1) := dop_177 (dn_w dw132_2 4 rfl)
noncomputable def dt133_12 : List Nat := 180 :: 0 :: 158 :: 4 :: 96 :: 181 :: 0 :: 158 :: 177 :: []
noncomputable def dt133_11 : List Nat := 96 :: 21 :: 4 :: 79 :: 42 :: 180 :: 0 :: 44 :: 42 :: 180 :: 0 :: 158 :: 3 :: 79 :: 42 :: 89 :: dt133_12
noncomputable def dt133_10 : List Nat := 104 :: 5 :: 96 :: 29 :: 79 :: 42 :: 180 :: 0 :: 41 :: 7 :: 42 :: 180 :: 0 :: 158 :: 104 :: 6 :: dt133_11
noncomputable def dt133_9 : List Nat := 0 :: 158 :: 104 :: 4 :: 96 :: 28 :: 79 :: 42 :: 180 :: 0 :: 41 :: 7 :: 42 :: 180 :: 0 :: 158 :: dt133_10
noncomputable def dt133_8 : List Nat := 41 :: 7 :: 42 :: 180 :: 0 :: 158 :: 104 :: 27 :: 79 :: 42 :: 180 :: 0 :: 41 :: 7 :: 42 :: 180 :: dt133_9
noncomputable def dt133_7 : List Nat := 54 :: 4 :: 42 :: 182 :: 0 :: 169 :: 42 :: 180 :: 0 :: 148 :: 153 :: 0 :: 78 :: 42 :: 180 :: 0 :: dt133_8
noncomputable def dt133_6 : List Nat := 0 :: 134 :: 153 :: 0 :: 16 :: 42 :: 182 :: 0 :: 152 :: 42 :: 3 :: 16 :: 9 :: 182 :: 0 :: 161 :: dt133_7
noncomputable def dt133_5 : List Nat := 62 :: 3 :: 54 :: 4 :: 42 :: 180 :: 0 :: 148 :: 153 :: 0 :: 26 :: 42 :: 20 :: 0 :: 167 :: 182 :: dt133_6
noncomputable def dt133_4 : List Nat := 180 :: 0 :: 148 :: 153 :: 0 :: 7 :: 42 :: 182 :: 0 :: 152 :: 42 :: 3 :: 8 :: 182 :: 0 :: 161 :: dt133_5
noncomputable def dt133_3 : List Nat := 165 :: 182 :: 0 :: 134 :: 153 :: 0 :: 7 :: 4 :: 167 :: 0 :: 4 :: 3 :: 181 :: 0 :: 148 :: 42 :: dt133_4
noncomputable def dt133_2 : List Nat := 9 :: 182 :: 0 :: 161 :: 61 :: 42 :: 42 :: 180 :: 0 :: 148 :: 153 :: 0 :: 17 :: 42 :: 20 :: 0 :: dt133_3
noncomputable def dt133_1 : List Nat := 0 :: 148 :: 42 :: 180 :: 0 :: 148 :: 153 :: 0 :: 7 :: 42 :: 182 :: 0 :: 152 :: 42 :: 3 :: 16 :: dt133_2
noncomputable def dt133_0 : List Nat := 42 :: 42 :: 180 :: 0 :: 158 :: 16 :: 8 :: 162 :: 0 :: 7 :: 4 :: 167 :: 0 :: 4 :: 3 :: 181 :: dt133_1
theorem dw133_0 : dn cX9_wantChild 0 = dt133_0 := by decide +kernel
theorem dw133_1 : dn cX9_wantChild 16 = dt133_1 := dn_w dw133_0 16 rfl
theorem dw133_2 : dn cX9_wantChild 32 = dt133_2 := dn_w dw133_1 16 rfl
theorem dw133_3 : dn cX9_wantChild 48 = dt133_3 := dn_w dw133_2 16 rfl
theorem dw133_4 : dn cX9_wantChild 64 = dt133_4 := dn_w dw133_3 16 rfl
theorem dw133_5 : dn cX9_wantChild 80 = dt133_5 := dn_w dw133_4 16 rfl
theorem dw133_6 : dn cX9_wantChild 96 = dt133_6 := dn_w dw133_5 16 rfl
theorem dw133_7 : dn cX9_wantChild 112 = dt133_7 := dn_w dw133_6 16 rfl
theorem dw133_8 : dn cX9_wantChild 128 = dt133_8 := dn_w dw133_7 16 rfl
theorem dw133_9 : dn cX9_wantChild 144 = dt133_9 := dn_w dw133_8 16 rfl
theorem dw133_10 : dn cX9_wantChild 160 = dt133_10 := dn_w dw133_9 16 rfl
theorem dw133_11 : dn cX9_wantChild 176 = dt133_11 := dn_w dw133_10 16 rfl
theorem dw133_12 : dn cX9_wantChild 192 = dt133_12 := dn_w dw133_11 16 rfl
theorem dX9_wantChild_0 : decode cX9_wantChild 0 = .ok (.aload_n 0, 1) := dop_42 (dn_w dw133_0 0 rfl)
theorem dX9_wantChild_1 : decode cX9_wantChild 1 = .ok (.aload_n 0, 1) := dop_42 (dn_w dw133_0 1 rfl)
theorem dX9_wantChild_2 : decode cX9_wantChild 2 = .ok (.getfield 158, 3) := dop_180 (dn_w dw133_0 2 rfl) rfl
theorem dX9_wantChild_5 : decode cX9_wantChild 5 = .ok (.bipush 8, 2) := dop_16 (dn_w dw133_0 5 rfl) rfl
theorem dX9_wantChild_7 : decode cX9_wantChild 7 = .ok (.if_icmp .ge 7, 3) := dop_162 (dn_w dw133_0 7 rfl) rfl
theorem dX9_wantChild_10 : decode cX9_wantChild 10 = .ok (.iconst 1, 1) := dop_4 (dn_w dw133_0 10 rfl)
theorem dX9_wantChild_11 : decode cX9_wantChild 11 = .ok (.goto 4, 3) := dop_167 (dn_w dw133_0 11 rfl) rfl
theorem dX9_wantChild_14 : decode cX9_wantChild 14 = .ok (.iconst 0, 1) := dop_3 (dn_w dw133_0 14 rfl)
theorem dX9_wantChild_15 : decode cX9_wantChild 15 = .ok (.putfield 148, 3) := dop_181 (dn_w dw133_0 15 rfl) rfl
theorem dX9_wantChild_18 : decode cX9_wantChild 18 = .ok (.aload_n 0, 1) := dop_42 (dn_w dw133_1 2 rfl)
theorem dX9_wantChild_19 : decode cX9_wantChild 19 = .ok (.getfield 148, 3) := dop_180 (dn_w dw133_1 3 rfl) rfl
theorem dX9_wantChild_22 : decode cX9_wantChild 22 = .ok (.ifCond .eq 7, 3) := dop_153 (dn_w dw133_1 6 rfl) rfl
theorem dX9_wantChild_25 : decode cX9_wantChild 25 = .ok (.aload_n 0, 1) := dop_42 (dn_w dw133_1 9 rfl)
theorem dX9_wantChild_26 : decode cX9_wantChild 26 = .ok (.invokevirtual 152, 3) := dop_182 (dn_w dw133_1 10 rfl) rfl
theorem dX9_wantChild_29 : decode cX9_wantChild 29 = .ok (.aload_n 0, 1) := dop_42 (dn_w dw133_1 13 rfl)
theorem dX9_wantChild_30 : decode cX9_wantChild 30 = .ok (.iconst 0, 1) := dop_3 (dn_w dw133_1 14 rfl)
theorem dX9_wantChild_31 : decode cX9_wantChild 31 = .ok (.bipush 9, 2) := dop_16 (dn_w dw133_1 15 rfl) rfl
theorem dX9_wantChild_33 : decode cX9_wantChild 33 = .ok (.invokevirtual 161, 3) := dop_182 (dn_w dw133_2 1 rfl) rfl
theorem dX9_wantChild_36 : decode cX9_wantChild 36 = .ok (.istore_n 2, 1) := dop_61 (dn_w dw133_2 4 rfl)
theorem dX9_wantChild_37 : decode cX9_wantChild 37 = .ok (.aload_n 0, 1) := dop_42 (dn_w dw133_2 5 rfl)
theorem dX9_wantChild_38 : decode cX9_wantChild 38 = .ok (.aload_n 0, 1) := dop_42 (dn_w dw133_2 6 rfl)
theorem dX9_wantChild_39 : decode cX9_wantChild 39 = .ok (.getfield 148, 3) := dop_180 (dn_w dw133_2 7 rfl) rfl
theorem dX9_wantChild_42 : decode cX9_wantChild 42 = .ok (.ifCond .eq 17, 3) := dop_153 (dn_w dw133_2 10 rfl) rfl
theorem dX9_wantChild_45 : decode cX9_wantChild 45 = .ok (.aload_n 0, 1) := dop_42 (dn_w dw133_2 13 rfl)
theorem dX9_wantChild_46 : decode cX9_wantChild 46 = .ok (.ldc2_w 165, 3) := dop_20 (dn_w dw133_2 14 rfl) rfl
theorem dX9_wantChild_49 : decode cX9_wantChild 49 = .ok (.invokevirtual 134, 3) := dop_182 (dn_w dw133_3 1 rfl) rfl
theorem dX9_wantChild_52 : decode cX9_wantChild 52 = .ok (.ifCond .eq 7, 3) := dop_153 (dn_w dw133_3 4 rfl) rfl
theorem dX9_wantChild_55 : decode cX9_wantChild 55 = .ok (.iconst 1, 1) := dop_4 (dn_w dw133_3 7 rfl)
theorem dX9_wantChild_56 : decode cX9_wantChild 56 = .ok (.goto 4, 3) := dop_167 (dn_w dw133_3 8 rfl) rfl
theorem dX9_wantChild_59 : decode cX9_wantChild 59 = .ok (.iconst 0, 1) := dop_3 (dn_w dw133_3 11 rfl)
theorem dX9_wantChild_60 : decode cX9_wantChild 60 = .ok (.putfield 148, 3) := dop_181 (dn_w dw133_3 12 rfl) rfl
theorem dX9_wantChild_63 : decode cX9_wantChild 63 = .ok (.aload_n 0, 1) := dop_42 (dn_w dw133_3 15 rfl)
theorem dX9_wantChild_64 : decode cX9_wantChild 64 = .ok (.getfield 148, 3) := dop_180 (dn_w dw133_4 0 rfl) rfl
theorem dX9_wantChild_67 : decode cX9_wantChild 67 = .ok (.ifCond .eq 7, 3) := dop_153 (dn_w dw133_4 3 rfl) rfl
theorem dX9_wantChild_70 : decode cX9_wantChild 70 = .ok (.aload_n 0, 1) := dop_42 (dn_w dw133_4 6 rfl)
theorem dX9_wantChild_71 : decode cX9_wantChild 71 = .ok (.invokevirtual 152, 3) := dop_182 (dn_w dw133_4 7 rfl) rfl
theorem dX9_wantChild_74 : decode cX9_wantChild 74 = .ok (.aload_n 0, 1) := dop_42 (dn_w dw133_4 10 rfl)
theorem dX9_wantChild_75 : decode cX9_wantChild 75 = .ok (.iconst 0, 1) := dop_3 (dn_w dw133_4 11 rfl)
theorem dX9_wantChild_76 : decode cX9_wantChild 76 = .ok (.iconst 5, 1) := dop_8 (dn_w dw133_4 12 rfl)
theorem dX9_wantChild_77 : decode cX9_wantChild 77 = .ok (.invokevirtual 161, 3) := dop_182 (dn_w dw133_4 13 rfl) rfl
theorem dX9_wantChild_80 : decode cX9_wantChild 80 = .ok (.istore_n 3, 1) := dop_62 (dn_w dw133_5 0 rfl)
theorem dX9_wantChild_81 : decode cX9_wantChild 81 = .ok (.iconst 0, 1) := dop_3 (dn_w dw133_5 1 rfl)
theorem dX9_wantChild_82 : decode cX9_wantChild 82 = .ok (.istore 4, 2) := dop_54 (dn_w dw133_5 2 rfl)
theorem dX9_wantChild_84 : decode cX9_wantChild 84 = .ok (.aload_n 0, 1) := dop_42 (dn_w dw133_5 4 rfl)
theorem dX9_wantChild_85 : decode cX9_wantChild 85 = .ok (.getfield 148, 3) := dop_180 (dn_w dw133_5 5 rfl) rfl
theorem dX9_wantChild_88 : decode cX9_wantChild 88 = .ok (.ifCond .eq 26, 3) := dop_153 (dn_w dw133_5 8 rfl) rfl
theorem dX9_wantChild_91 : decode cX9_wantChild 91 = .ok (.aload_n 0, 1) := dop_42 (dn_w dw133_5 11 rfl)
theorem dX9_wantChild_92 : decode cX9_wantChild 92 = .ok (.ldc2_w 167, 3) := dop_20 (dn_w dw133_5 12 rfl) rfl
theorem dX9_wantChild_95 : decode cX9_wantChild 95 = .ok (.invokevirtual 134, 3) := dop_182 (dn_w dw133_5 15 rfl) rfl
theorem dX9_wantChild_98 : decode cX9_wantChild 98 = .ok (.ifCond .eq 16, 3) := dop_153 (dn_w dw133_6 2 rfl) rfl
theorem dX9_wantChild_101 : decode cX9_wantChild 101 = .ok (.aload_n 0, 1) := dop_42 (dn_w dw133_6 5 rfl)
theorem dX9_wantChild_102 : decode cX9_wantChild 102 = .ok (.invokevirtual 152, 3) := dop_182 (dn_w dw133_6 6 rfl) rfl
theorem dX9_wantChild_105 : decode cX9_wantChild 105 = .ok (.aload_n 0, 1) := dop_42 (dn_w dw133_6 9 rfl)
theorem dX9_wantChild_106 : decode cX9_wantChild 106 = .ok (.iconst 0, 1) := dop_3 (dn_w dw133_6 10 rfl)
theorem dX9_wantChild_107 : decode cX9_wantChild 107 = .ok (.bipush 9, 2) := dop_16 (dn_w dw133_6 11 rfl) rfl
theorem dX9_wantChild_109 : decode cX9_wantChild 109 = .ok (.invokevirtual 161, 3) := dop_182 (dn_w dw133_6 13 rfl) rfl
theorem dX9_wantChild_112 : decode cX9_wantChild 112 = .ok (.istore 4, 2) := dop_54 (dn_w dw133_7 0 rfl)
theorem dX9_wantChild_114 : decode cX9_wantChild 114 = .ok (.aload_n 0, 1) := dop_42 (dn_w dw133_7 2 rfl)
theorem dX9_wantChild_115 : decode cX9_wantChild 115 = .ok (.invokevirtual 169, 3) := dop_182 (dn_w dw133_7 3 rfl) rfl
theorem dX9_wantChild_118 : decode cX9_wantChild 118 = .ok (.aload_n 0, 1) := dop_42 (dn_w dw133_7 6 rfl)
theorem dX9_wantChild_119 : decode cX9_wantChild 119 = .ok (.getfield 148, 3) := dop_180 (dn_w dw133_7 7 rfl) rfl
theorem dX9_wantChild_122 : decode cX9_wantChild 122 = .ok (.ifCond .eq 78, 3) := dop_153 (dn_w dw133_7 10 rfl) rfl
theorem dX9_wantChild_125 : decode cX9_wantChild 125 = .ok (.aload_n 0, 1) := dop_42 (dn_w dw133_7 13 rfl)
theorem dX9_wantChild_126 : decode cX9_wantChild 126 = .ok (.getfield 41, 3) := dop_180 (dn_w dw133_7 14 rfl) rfl
theorem dX9_wantChild_129 : decode cX9_wantChild 129 = .ok (.iconst 4, 1) := dop_7 (dn_w dw133_8 1 rfl)
theorem dX9_wantChild_130 : decode cX9_wantChild 130 = .ok (.aload_n 0, 1) := dop_42 (dn_w dw133_8 2 rfl)
theorem dX9_wantChild_131 : decode cX9_wantChild 131 = .ok (.getfield 158, 3) := dop_180 (dn_w dw133_8 3 rfl) rfl
theorem dX9_wantChild_134 : decode cX9_wantChild 134 = .ok (.imul, 1) := dop_104 (dn_w dw133_8 6 rfl)
theorem dX9_wantChild_135 : decode cX9_wantChild 135 = .ok (.iload_n 1, 1) := dop_27 (dn_w dw133_8 7 rfl)
theorem dX9_wantChild_136 : decode cX9_wantChild 136 = .ok (.iastore, 1) := dop_79 (dn_w dw133_8 8 rfl)
theorem dX9_wantChild_137 : decode cX9_wantChild 137 = .ok (.aload_n 0, 1) := dop_42 (dn_w dw133_8 9 rfl)
theorem dX9_wantChild_138 : decode cX9_wantChild 138 = .ok (.getfield 41, 3) := dop_180 (dn_w dw133_8 10 rfl) rfl
theorem dX9_wantChild_141 : decode cX9_wantChild 141 = .ok (.iconst 4, 1) := dop_7 (dn_w dw133_8 13 rfl)
theorem dX9_wantChild_142 : decode cX9_wantChild 142 = .ok (.aload_n 0, 1) := dop_42 (dn_w dw133_8 14 rfl)
theorem dX9_wantChild_143 : decode cX9_wantChild 143 = .ok (.getfield 158, 3) := dop_180 (dn_w dw133_8 15 rfl) rfl
theorem dX9_wantChild_146 : decode cX9_wantChild 146 = .ok (.imul, 1) := dop_104 (dn_w dw133_9 2 rfl)
theorem dX9_wantChild_147 : decode cX9_wantChild 147 = .ok (.iconst 1, 1) := dop_4 (dn_w dw133_9 3 rfl)
theorem dX9_wantChild_148 : decode cX9_wantChild 148 = .ok (.iadd, 1) := dop_96 (dn_w dw133_9 4 rfl)
theorem dX9_wantChild_149 : decode cX9_wantChild 149 = .ok (.iload_n 2, 1) := dop_28 (dn_w dw133_9 5 rfl)
theorem dX9_wantChild_150 : decode cX9_wantChild 150 = .ok (.iastore, 1) := dop_79 (dn_w dw133_9 6 rfl)
theorem dX9_wantChild_151 : decode cX9_wantChild 151 = .ok (.aload_n 0, 1) := dop_42 (dn_w dw133_9 7 rfl)
theorem dX9_wantChild_152 : decode cX9_wantChild 152 = .ok (.getfield 41, 3) := dop_180 (dn_w dw133_9 8 rfl) rfl
theorem dX9_wantChild_155 : decode cX9_wantChild 155 = .ok (.iconst 4, 1) := dop_7 (dn_w dw133_9 11 rfl)
theorem dX9_wantChild_156 : decode cX9_wantChild 156 = .ok (.aload_n 0, 1) := dop_42 (dn_w dw133_9 12 rfl)
theorem dX9_wantChild_157 : decode cX9_wantChild 157 = .ok (.getfield 158, 3) := dop_180 (dn_w dw133_9 13 rfl) rfl
theorem dX9_wantChild_160 : decode cX9_wantChild 160 = .ok (.imul, 1) := dop_104 (dn_w dw133_10 0 rfl)
theorem dX9_wantChild_161 : decode cX9_wantChild 161 = .ok (.iconst 2, 1) := dop_5 (dn_w dw133_10 1 rfl)
theorem dX9_wantChild_162 : decode cX9_wantChild 162 = .ok (.iadd, 1) := dop_96 (dn_w dw133_10 2 rfl)
theorem dX9_wantChild_163 : decode cX9_wantChild 163 = .ok (.iload_n 3, 1) := dop_29 (dn_w dw133_10 3 rfl)
theorem dX9_wantChild_164 : decode cX9_wantChild 164 = .ok (.iastore, 1) := dop_79 (dn_w dw133_10 4 rfl)
theorem dX9_wantChild_165 : decode cX9_wantChild 165 = .ok (.aload_n 0, 1) := dop_42 (dn_w dw133_10 5 rfl)
theorem dX9_wantChild_166 : decode cX9_wantChild 166 = .ok (.getfield 41, 3) := dop_180 (dn_w dw133_10 6 rfl) rfl
theorem dX9_wantChild_169 : decode cX9_wantChild 169 = .ok (.iconst 4, 1) := dop_7 (dn_w dw133_10 9 rfl)
theorem dX9_wantChild_170 : decode cX9_wantChild 170 = .ok (.aload_n 0, 1) := dop_42 (dn_w dw133_10 10 rfl)
theorem dX9_wantChild_171 : decode cX9_wantChild 171 = .ok (.getfield 158, 3) := dop_180 (dn_w dw133_10 11 rfl) rfl
theorem dX9_wantChild_174 : decode cX9_wantChild 174 = .ok (.imul, 1) := dop_104 (dn_w dw133_10 14 rfl)
theorem dX9_wantChild_175 : decode cX9_wantChild 175 = .ok (.iconst 3, 1) := dop_6 (dn_w dw133_10 15 rfl)
theorem dX9_wantChild_176 : decode cX9_wantChild 176 = .ok (.iadd, 1) := dop_96 (dn_w dw133_11 0 rfl)
theorem dX9_wantChild_177 : decode cX9_wantChild 177 = .ok (.iload 4, 2) := dop_21 (dn_w dw133_11 1 rfl)
theorem dX9_wantChild_179 : decode cX9_wantChild 179 = .ok (.iastore, 1) := dop_79 (dn_w dw133_11 3 rfl)
theorem dX9_wantChild_180 : decode cX9_wantChild 180 = .ok (.aload_n 0, 1) := dop_42 (dn_w dw133_11 4 rfl)
theorem dX9_wantChild_181 : decode cX9_wantChild 181 = .ok (.getfield 44, 3) := dop_180 (dn_w dw133_11 5 rfl) rfl
theorem dX9_wantChild_184 : decode cX9_wantChild 184 = .ok (.aload_n 0, 1) := dop_42 (dn_w dw133_11 8 rfl)
theorem dX9_wantChild_185 : decode cX9_wantChild 185 = .ok (.getfield 158, 3) := dop_180 (dn_w dw133_11 9 rfl) rfl
theorem dX9_wantChild_188 : decode cX9_wantChild 188 = .ok (.iconst 0, 1) := dop_3 (dn_w dw133_11 12 rfl)
theorem dX9_wantChild_189 : decode cX9_wantChild 189 = .ok (.iastore, 1) := dop_79 (dn_w dw133_11 13 rfl)
theorem dX9_wantChild_190 : decode cX9_wantChild 190 = .ok (.aload_n 0, 1) := dop_42 (dn_w dw133_11 14 rfl)
theorem dX9_wantChild_191 : decode cX9_wantChild 191 = .ok (.dup, 1) := dop_89 (dn_w dw133_11 15 rfl)
theorem dX9_wantChild_192 : decode cX9_wantChild 192 = .ok (.getfield 158, 3) := dop_180 (dn_w dw133_12 0 rfl) rfl
theorem dX9_wantChild_195 : decode cX9_wantChild 195 = .ok (.iconst 1, 1) := dop_4 (dn_w dw133_12 3 rfl)
theorem dX9_wantChild_196 : decode cX9_wantChild 196 = .ok (.iadd, 1) := dop_96 (dn_w dw133_12 4 rfl)
theorem dX9_wantChild_197 : decode cX9_wantChild 197 = .ok (.putfield 158, 3) := dop_181 (dn_w dw133_12 5 rfl) rfl
theorem dX9_wantChild_200 : decode cX9_wantChild 200 = .ok (.return_, 1) := dop_177 (dn_w dw133_12 8 rfl)
noncomputable def dt134_2 : List Nat := 177 :: []
noncomputable def dt134_1 : List Nat := 46 :: 182 :: 0 :: 161 :: 61 :: 42 :: 182 :: 0 :: 169 :: 42 :: 180 :: 0 :: 50 :: 27 :: 28 :: 79 :: dt134_2
noncomputable def dt134_0 : List Nat := 42 :: 182 :: 0 :: 152 :: 42 :: 42 :: 180 :: 0 :: 28 :: 27 :: 46 :: 42 :: 180 :: 0 :: 31 :: 27 :: dt134_1
theorem dw134_0 : dn cX9_wantLaw 0 = dt134_0 := by decide +kernel
theorem dw134_1 : dn cX9_wantLaw 16 = dt134_1 := dn_w dw134_0 16 rfl
theorem dw134_2 : dn cX9_wantLaw 32 = dt134_2 := dn_w dw134_1 16 rfl
theorem dX9_wantLaw_0 : decode cX9_wantLaw 0 = .ok (.aload_n 0, 1) := dop_42 (dn_w dw134_0 0 rfl)
theorem dX9_wantLaw_1 : decode cX9_wantLaw 1 = .ok (.invokevirtual 152, 3) := dop_182 (dn_w dw134_0 1 rfl) rfl
theorem dX9_wantLaw_4 : decode cX9_wantLaw 4 = .ok (.aload_n 0, 1) := dop_42 (dn_w dw134_0 4 rfl)
theorem dX9_wantLaw_5 : decode cX9_wantLaw 5 = .ok (.aload_n 0, 1) := dop_42 (dn_w dw134_0 5 rfl)
theorem dX9_wantLaw_6 : decode cX9_wantLaw 6 = .ok (.getfield 28, 3) := dop_180 (dn_w dw134_0 6 rfl) rfl
theorem dX9_wantLaw_9 : decode cX9_wantLaw 9 = .ok (.iload_n 1, 1) := dop_27 (dn_w dw134_0 9 rfl)
theorem dX9_wantLaw_10 : decode cX9_wantLaw 10 = .ok (.iaload, 1) := dop_46 (dn_w dw134_0 10 rfl)
theorem dX9_wantLaw_11 : decode cX9_wantLaw 11 = .ok (.aload_n 0, 1) := dop_42 (dn_w dw134_0 11 rfl)
theorem dX9_wantLaw_12 : decode cX9_wantLaw 12 = .ok (.getfield 31, 3) := dop_180 (dn_w dw134_0 12 rfl) rfl
theorem dX9_wantLaw_15 : decode cX9_wantLaw 15 = .ok (.iload_n 1, 1) := dop_27 (dn_w dw134_0 15 rfl)
theorem dX9_wantLaw_16 : decode cX9_wantLaw 16 = .ok (.iaload, 1) := dop_46 (dn_w dw134_1 0 rfl)
theorem dX9_wantLaw_17 : decode cX9_wantLaw 17 = .ok (.invokevirtual 161, 3) := dop_182 (dn_w dw134_1 1 rfl) rfl
theorem dX9_wantLaw_20 : decode cX9_wantLaw 20 = .ok (.istore_n 2, 1) := dop_61 (dn_w dw134_1 4 rfl)
theorem dX9_wantLaw_21 : decode cX9_wantLaw 21 = .ok (.aload_n 0, 1) := dop_42 (dn_w dw134_1 5 rfl)
theorem dX9_wantLaw_22 : decode cX9_wantLaw 22 = .ok (.invokevirtual 169, 3) := dop_182 (dn_w dw134_1 6 rfl) rfl
theorem dX9_wantLaw_25 : decode cX9_wantLaw 25 = .ok (.aload_n 0, 1) := dop_42 (dn_w dw134_1 9 rfl)
theorem dX9_wantLaw_26 : decode cX9_wantLaw 26 = .ok (.getfield 50, 3) := dop_180 (dn_w dw134_1 10 rfl) rfl
theorem dX9_wantLaw_29 : decode cX9_wantLaw 29 = .ok (.iload_n 1, 1) := dop_27 (dn_w dw134_1 13 rfl)
theorem dX9_wantLaw_30 : decode cX9_wantLaw 30 = .ok (.iload_n 2, 1) := dop_28 (dn_w dw134_1 14 rfl)
theorem dX9_wantLaw_31 : decode cX9_wantLaw 31 = .ok (.iastore, 1) := dop_79 (dn_w dw134_1 15 rfl)
theorem dX9_wantLaw_32 : decode cX9_wantLaw 32 = .ok (.return_, 1) := dop_177 (dn_w dw134_2 0 rfl)
noncomputable def dt135_12 : List Nat := 42 :: 3 :: 181 :: 0 :: 148 :: 177 :: []
noncomputable def dt135_11 : List Nat := 0 :: 194 :: 182 :: 0 :: 134 :: 153 :: 0 :: 11 :: 42 :: 4 :: 182 :: 0 :: 191 :: 167 :: 0 :: 8 :: dt135_12
noncomputable def dt135_10 : List Nat := 182 :: 0 :: 134 :: 153 :: 0 :: 11 :: 42 :: 3 :: 182 :: 0 :: 191 :: 167 :: 0 :: 26 :: 42 :: 20 :: dt135_11
noncomputable def dt135_9 : List Nat := 0 :: 161 :: 181 :: 0 :: 186 :: 42 :: 182 :: 0 :: 169 :: 167 :: 0 :: 44 :: 42 :: 20 :: 0 :: 189 :: dt135_10
noncomputable def dt135_8 : List Nat := 182 :: 0 :: 134 :: 153 :: 0 :: 25 :: 42 :: 182 :: 0 :: 152 :: 42 :: 42 :: 3 :: 16 :: 40 :: 182 :: dt135_9
noncomputable def dt135_7 : List Nat := 0 :: 10 :: 42 :: 180 :: 0 :: 44 :: 27 :: 28 :: 79 :: 167 :: 0 :: 76 :: 42 :: 20 :: 0 :: 184 :: dt135_8
noncomputable def dt135_6 : List Nat := 3 :: 16 :: 20 :: 182 :: 0 :: 161 :: 61 :: 42 :: 182 :: 0 :: 169 :: 42 :: 180 :: 0 :: 148 :: 153 :: dt135_7
noncomputable def dt135_5 : List Nat := 182 :: 0 :: 152 :: 42 :: 3 :: 42 :: 180 :: 0 :: 158 :: 4 :: 100 :: 182 :: 0 :: 161 :: 60 :: 42 :: dt135_6
noncomputable def dt135_4 : List Nat := 28 :: 79 :: 167 :: 0 :: 131 :: 42 :: 20 :: 0 :: 182 :: 182 :: 0 :: 134 :: 153 :: 0 :: 48 :: 42 :: dt135_5
noncomputable def dt135_3 : List Nat := 42 :: 182 :: 0 :: 169 :: 42 :: 180 :: 0 :: 148 :: 153 :: 0 :: 10 :: 42 :: 180 :: 0 :: 47 :: 27 :: dt135_4
noncomputable def dt135_2 : List Nat := 42 :: 3 :: 16 :: 39 :: 182 :: 0 :: 161 :: 60 :: 42 :: 3 :: 16 :: 31 :: 182 :: 0 :: 161 :: 61 :: dt135_3
noncomputable def dt135_1 : List Nat := 0 :: 182 :: 42 :: 20 :: 0 :: 180 :: 182 :: 0 :: 134 :: 153 :: 0 :: 44 :: 42 :: 182 :: 0 :: 152 :: dt135_2
noncomputable def dt135_0 : List Nat := 42 :: 182 :: 0 :: 172 :: 155 :: 0 :: 14 :: 42 :: 42 :: 182 :: 0 :: 172 :: 182 :: 0 :: 176 :: 167 :: dt135_1
theorem dw135_0 : dn cX9_wantClause 0 = dt135_0 := by decide +kernel
theorem dw135_1 : dn cX9_wantClause 16 = dt135_1 := dn_w dw135_0 16 rfl
theorem dw135_2 : dn cX9_wantClause 32 = dt135_2 := dn_w dw135_1 16 rfl
theorem dw135_3 : dn cX9_wantClause 48 = dt135_3 := dn_w dw135_2 16 rfl
theorem dw135_4 : dn cX9_wantClause 64 = dt135_4 := dn_w dw135_3 16 rfl
theorem dw135_5 : dn cX9_wantClause 80 = dt135_5 := dn_w dw135_4 16 rfl
theorem dw135_6 : dn cX9_wantClause 96 = dt135_6 := dn_w dw135_5 16 rfl
theorem dw135_7 : dn cX9_wantClause 112 = dt135_7 := dn_w dw135_6 16 rfl
theorem dw135_8 : dn cX9_wantClause 128 = dt135_8 := dn_w dw135_7 16 rfl
theorem dw135_9 : dn cX9_wantClause 144 = dt135_9 := dn_w dw135_8 16 rfl
theorem dw135_10 : dn cX9_wantClause 160 = dt135_10 := dn_w dw135_9 16 rfl
theorem dw135_11 : dn cX9_wantClause 176 = dt135_11 := dn_w dw135_10 16 rfl
theorem dw135_12 : dn cX9_wantClause 192 = dt135_12 := dn_w dw135_11 16 rfl
theorem dX9_wantClause_0 : decode cX9_wantClause 0 = .ok (.aload_n 0, 1) := dop_42 (dn_w dw135_0 0 rfl)
theorem dX9_wantClause_1 : decode cX9_wantClause 1 = .ok (.invokevirtual 172, 3) := dop_182 (dn_w dw135_0 1 rfl) rfl
theorem dX9_wantClause_4 : decode cX9_wantClause 4 = .ok (.ifCond .lt 14, 3) := dop_155 (dn_w dw135_0 4 rfl) rfl
theorem dX9_wantClause_7 : decode cX9_wantClause 7 = .ok (.aload_n 0, 1) := dop_42 (dn_w dw135_0 7 rfl)
theorem dX9_wantClause_8 : decode cX9_wantClause 8 = .ok (.aload_n 0, 1) := dop_42 (dn_w dw135_0 8 rfl)
theorem dX9_wantClause_9 : decode cX9_wantClause 9 = .ok (.invokevirtual 172, 3) := dop_182 (dn_w dw135_0 9 rfl) rfl
theorem dX9_wantClause_12 : decode cX9_wantClause 12 = .ok (.invokevirtual 176, 3) := dop_182 (dn_w dw135_0 12 rfl) rfl
theorem dX9_wantClause_15 : decode cX9_wantClause 15 = .ok (.goto 182, 3) := dop_167 (dn_w dw135_0 15 rfl) rfl
theorem dX9_wantClause_18 : decode cX9_wantClause 18 = .ok (.aload_n 0, 1) := dop_42 (dn_w dw135_1 2 rfl)
theorem dX9_wantClause_19 : decode cX9_wantClause 19 = .ok (.ldc2_w 180, 3) := dop_20 (dn_w dw135_1 3 rfl) rfl
theorem dX9_wantClause_22 : decode cX9_wantClause 22 = .ok (.invokevirtual 134, 3) := dop_182 (dn_w dw135_1 6 rfl) rfl
theorem dX9_wantClause_25 : decode cX9_wantClause 25 = .ok (.ifCond .eq 44, 3) := dop_153 (dn_w dw135_1 9 rfl) rfl
theorem dX9_wantClause_28 : decode cX9_wantClause 28 = .ok (.aload_n 0, 1) := dop_42 (dn_w dw135_1 12 rfl)
theorem dX9_wantClause_29 : decode cX9_wantClause 29 = .ok (.invokevirtual 152, 3) := dop_182 (dn_w dw135_1 13 rfl) rfl
theorem dX9_wantClause_32 : decode cX9_wantClause 32 = .ok (.aload_n 0, 1) := dop_42 (dn_w dw135_2 0 rfl)
theorem dX9_wantClause_33 : decode cX9_wantClause 33 = .ok (.iconst 0, 1) := dop_3 (dn_w dw135_2 1 rfl)
theorem dX9_wantClause_34 : decode cX9_wantClause 34 = .ok (.bipush 39, 2) := dop_16 (dn_w dw135_2 2 rfl) rfl
theorem dX9_wantClause_36 : decode cX9_wantClause 36 = .ok (.invokevirtual 161, 3) := dop_182 (dn_w dw135_2 4 rfl) rfl
theorem dX9_wantClause_39 : decode cX9_wantClause 39 = .ok (.istore_n 1, 1) := dop_60 (dn_w dw135_2 7 rfl)
theorem dX9_wantClause_40 : decode cX9_wantClause 40 = .ok (.aload_n 0, 1) := dop_42 (dn_w dw135_2 8 rfl)
theorem dX9_wantClause_41 : decode cX9_wantClause 41 = .ok (.iconst 0, 1) := dop_3 (dn_w dw135_2 9 rfl)
theorem dX9_wantClause_42 : decode cX9_wantClause 42 = .ok (.bipush 31, 2) := dop_16 (dn_w dw135_2 10 rfl) rfl
theorem dX9_wantClause_44 : decode cX9_wantClause 44 = .ok (.invokevirtual 161, 3) := dop_182 (dn_w dw135_2 12 rfl) rfl
theorem dX9_wantClause_47 : decode cX9_wantClause 47 = .ok (.istore_n 2, 1) := dop_61 (dn_w dw135_2 15 rfl)
theorem dX9_wantClause_48 : decode cX9_wantClause 48 = .ok (.aload_n 0, 1) := dop_42 (dn_w dw135_3 0 rfl)
theorem dX9_wantClause_49 : decode cX9_wantClause 49 = .ok (.invokevirtual 169, 3) := dop_182 (dn_w dw135_3 1 rfl) rfl
theorem dX9_wantClause_52 : decode cX9_wantClause 52 = .ok (.aload_n 0, 1) := dop_42 (dn_w dw135_3 4 rfl)
theorem dX9_wantClause_53 : decode cX9_wantClause 53 = .ok (.getfield 148, 3) := dop_180 (dn_w dw135_3 5 rfl) rfl
theorem dX9_wantClause_56 : decode cX9_wantClause 56 = .ok (.ifCond .eq 10, 3) := dop_153 (dn_w dw135_3 8 rfl) rfl
theorem dX9_wantClause_59 : decode cX9_wantClause 59 = .ok (.aload_n 0, 1) := dop_42 (dn_w dw135_3 11 rfl)
theorem dX9_wantClause_60 : decode cX9_wantClause 60 = .ok (.getfield 47, 3) := dop_180 (dn_w dw135_3 12 rfl) rfl
theorem dX9_wantClause_63 : decode cX9_wantClause 63 = .ok (.iload_n 1, 1) := dop_27 (dn_w dw135_3 15 rfl)
theorem dX9_wantClause_64 : decode cX9_wantClause 64 = .ok (.iload_n 2, 1) := dop_28 (dn_w dw135_4 0 rfl)
theorem dX9_wantClause_65 : decode cX9_wantClause 65 = .ok (.iastore, 1) := dop_79 (dn_w dw135_4 1 rfl)
theorem dX9_wantClause_66 : decode cX9_wantClause 66 = .ok (.goto 131, 3) := dop_167 (dn_w dw135_4 2 rfl) rfl
theorem dX9_wantClause_69 : decode cX9_wantClause 69 = .ok (.aload_n 0, 1) := dop_42 (dn_w dw135_4 5 rfl)
theorem dX9_wantClause_70 : decode cX9_wantClause 70 = .ok (.ldc2_w 182, 3) := dop_20 (dn_w dw135_4 6 rfl) rfl
theorem dX9_wantClause_73 : decode cX9_wantClause 73 = .ok (.invokevirtual 134, 3) := dop_182 (dn_w dw135_4 9 rfl) rfl
theorem dX9_wantClause_76 : decode cX9_wantClause 76 = .ok (.ifCond .eq 48, 3) := dop_153 (dn_w dw135_4 12 rfl) rfl
theorem dX9_wantClause_79 : decode cX9_wantClause 79 = .ok (.aload_n 0, 1) := dop_42 (dn_w dw135_4 15 rfl)
theorem dX9_wantClause_80 : decode cX9_wantClause 80 = .ok (.invokevirtual 152, 3) := dop_182 (dn_w dw135_5 0 rfl) rfl
theorem dX9_wantClause_83 : decode cX9_wantClause 83 = .ok (.aload_n 0, 1) := dop_42 (dn_w dw135_5 3 rfl)
theorem dX9_wantClause_84 : decode cX9_wantClause 84 = .ok (.iconst 0, 1) := dop_3 (dn_w dw135_5 4 rfl)
theorem dX9_wantClause_85 : decode cX9_wantClause 85 = .ok (.aload_n 0, 1) := dop_42 (dn_w dw135_5 5 rfl)
theorem dX9_wantClause_86 : decode cX9_wantClause 86 = .ok (.getfield 158, 3) := dop_180 (dn_w dw135_5 6 rfl) rfl
theorem dX9_wantClause_89 : decode cX9_wantClause 89 = .ok (.iconst 1, 1) := dop_4 (dn_w dw135_5 9 rfl)
theorem dX9_wantClause_90 : decode cX9_wantClause 90 = .ok (.isub, 1) := dop_100 (dn_w dw135_5 10 rfl)
theorem dX9_wantClause_91 : decode cX9_wantClause 91 = .ok (.invokevirtual 161, 3) := dop_182 (dn_w dw135_5 11 rfl) rfl
theorem dX9_wantClause_94 : decode cX9_wantClause 94 = .ok (.istore_n 1, 1) := dop_60 (dn_w dw135_5 14 rfl)
theorem dX9_wantClause_95 : decode cX9_wantClause 95 = .ok (.aload_n 0, 1) := dop_42 (dn_w dw135_5 15 rfl)
theorem dX9_wantClause_96 : decode cX9_wantClause 96 = .ok (.iconst 0, 1) := dop_3 (dn_w dw135_6 0 rfl)
theorem dX9_wantClause_97 : decode cX9_wantClause 97 = .ok (.bipush 20, 2) := dop_16 (dn_w dw135_6 1 rfl) rfl
theorem dX9_wantClause_99 : decode cX9_wantClause 99 = .ok (.invokevirtual 161, 3) := dop_182 (dn_w dw135_6 3 rfl) rfl
theorem dX9_wantClause_102 : decode cX9_wantClause 102 = .ok (.istore_n 2, 1) := dop_61 (dn_w dw135_6 6 rfl)
theorem dX9_wantClause_103 : decode cX9_wantClause 103 = .ok (.aload_n 0, 1) := dop_42 (dn_w dw135_6 7 rfl)
theorem dX9_wantClause_104 : decode cX9_wantClause 104 = .ok (.invokevirtual 169, 3) := dop_182 (dn_w dw135_6 8 rfl) rfl
theorem dX9_wantClause_107 : decode cX9_wantClause 107 = .ok (.aload_n 0, 1) := dop_42 (dn_w dw135_6 11 rfl)
theorem dX9_wantClause_108 : decode cX9_wantClause 108 = .ok (.getfield 148, 3) := dop_180 (dn_w dw135_6 12 rfl) rfl
theorem dX9_wantClause_111 : decode cX9_wantClause 111 = .ok (.ifCond .eq 10, 3) := dop_153 (dn_w dw135_6 15 rfl) rfl
theorem dX9_wantClause_114 : decode cX9_wantClause 114 = .ok (.aload_n 0, 1) := dop_42 (dn_w dw135_7 2 rfl)
theorem dX9_wantClause_115 : decode cX9_wantClause 115 = .ok (.getfield 44, 3) := dop_180 (dn_w dw135_7 3 rfl) rfl
theorem dX9_wantClause_118 : decode cX9_wantClause 118 = .ok (.iload_n 1, 1) := dop_27 (dn_w dw135_7 6 rfl)
theorem dX9_wantClause_119 : decode cX9_wantClause 119 = .ok (.iload_n 2, 1) := dop_28 (dn_w dw135_7 7 rfl)
theorem dX9_wantClause_120 : decode cX9_wantClause 120 = .ok (.iastore, 1) := dop_79 (dn_w dw135_7 8 rfl)
theorem dX9_wantClause_121 : decode cX9_wantClause 121 = .ok (.goto 76, 3) := dop_167 (dn_w dw135_7 9 rfl) rfl
theorem dX9_wantClause_124 : decode cX9_wantClause 124 = .ok (.aload_n 0, 1) := dop_42 (dn_w dw135_7 12 rfl)
theorem dX9_wantClause_125 : decode cX9_wantClause 125 = .ok (.ldc2_w 184, 3) := dop_20 (dn_w dw135_7 13 rfl) rfl
theorem dX9_wantClause_128 : decode cX9_wantClause 128 = .ok (.invokevirtual 134, 3) := dop_182 (dn_w dw135_8 0 rfl) rfl
theorem dX9_wantClause_131 : decode cX9_wantClause 131 = .ok (.ifCond .eq 25, 3) := dop_153 (dn_w dw135_8 3 rfl) rfl
theorem dX9_wantClause_134 : decode cX9_wantClause 134 = .ok (.aload_n 0, 1) := dop_42 (dn_w dw135_8 6 rfl)
theorem dX9_wantClause_135 : decode cX9_wantClause 135 = .ok (.invokevirtual 152, 3) := dop_182 (dn_w dw135_8 7 rfl) rfl
theorem dX9_wantClause_138 : decode cX9_wantClause 138 = .ok (.aload_n 0, 1) := dop_42 (dn_w dw135_8 10 rfl)
theorem dX9_wantClause_139 : decode cX9_wantClause 139 = .ok (.aload_n 0, 1) := dop_42 (dn_w dw135_8 11 rfl)
theorem dX9_wantClause_140 : decode cX9_wantClause 140 = .ok (.iconst 0, 1) := dop_3 (dn_w dw135_8 12 rfl)
theorem dX9_wantClause_141 : decode cX9_wantClause 141 = .ok (.bipush 40, 2) := dop_16 (dn_w dw135_8 13 rfl) rfl
theorem dX9_wantClause_143 : decode cX9_wantClause 143 = .ok (.invokevirtual 161, 3) := dop_182 (dn_w dw135_8 15 rfl) rfl
theorem dX9_wantClause_146 : decode cX9_wantClause 146 = .ok (.putfield 186, 3) := dop_181 (dn_w dw135_9 2 rfl) rfl
theorem dX9_wantClause_149 : decode cX9_wantClause 149 = .ok (.aload_n 0, 1) := dop_42 (dn_w dw135_9 5 rfl)
theorem dX9_wantClause_150 : decode cX9_wantClause 150 = .ok (.invokevirtual 169, 3) := dop_182 (dn_w dw135_9 6 rfl) rfl
theorem dX9_wantClause_153 : decode cX9_wantClause 153 = .ok (.goto 44, 3) := dop_167 (dn_w dw135_9 9 rfl) rfl
theorem dX9_wantClause_156 : decode cX9_wantClause 156 = .ok (.aload_n 0, 1) := dop_42 (dn_w dw135_9 12 rfl)
theorem dX9_wantClause_157 : decode cX9_wantClause 157 = .ok (.ldc2_w 189, 3) := dop_20 (dn_w dw135_9 13 rfl) rfl
theorem dX9_wantClause_160 : decode cX9_wantClause 160 = .ok (.invokevirtual 134, 3) := dop_182 (dn_w dw135_10 0 rfl) rfl
theorem dX9_wantClause_163 : decode cX9_wantClause 163 = .ok (.ifCond .eq 11, 3) := dop_153 (dn_w dw135_10 3 rfl) rfl
theorem dX9_wantClause_166 : decode cX9_wantClause 166 = .ok (.aload_n 0, 1) := dop_42 (dn_w dw135_10 6 rfl)
theorem dX9_wantClause_167 : decode cX9_wantClause 167 = .ok (.iconst 0, 1) := dop_3 (dn_w dw135_10 7 rfl)
theorem dX9_wantClause_168 : decode cX9_wantClause 168 = .ok (.invokevirtual 191, 3) := dop_182 (dn_w dw135_10 8 rfl) rfl
theorem dX9_wantClause_171 : decode cX9_wantClause 171 = .ok (.goto 26, 3) := dop_167 (dn_w dw135_10 11 rfl) rfl
theorem dX9_wantClause_174 : decode cX9_wantClause 174 = .ok (.aload_n 0, 1) := dop_42 (dn_w dw135_10 14 rfl)
theorem dX9_wantClause_175 : decode cX9_wantClause 175 = .ok (.ldc2_w 194, 3) := dop_20 (dn_w dw135_10 15 rfl) rfl
theorem dX9_wantClause_178 : decode cX9_wantClause 178 = .ok (.invokevirtual 134, 3) := dop_182 (dn_w dw135_11 2 rfl) rfl
theorem dX9_wantClause_181 : decode cX9_wantClause 181 = .ok (.ifCond .eq 11, 3) := dop_153 (dn_w dw135_11 5 rfl) rfl
theorem dX9_wantClause_184 : decode cX9_wantClause 184 = .ok (.aload_n 0, 1) := dop_42 (dn_w dw135_11 8 rfl)
theorem dX9_wantClause_185 : decode cX9_wantClause 185 = .ok (.iconst 1, 1) := dop_4 (dn_w dw135_11 9 rfl)
theorem dX9_wantClause_186 : decode cX9_wantClause 186 = .ok (.invokevirtual 191, 3) := dop_182 (dn_w dw135_11 10 rfl) rfl
theorem dX9_wantClause_189 : decode cX9_wantClause 189 = .ok (.goto 8, 3) := dop_167 (dn_w dw135_11 13 rfl) rfl
theorem dX9_wantClause_192 : decode cX9_wantClause 192 = .ok (.aload_n 0, 1) := dop_42 (dn_w dw135_12 0 rfl)
theorem dX9_wantClause_193 : decode cX9_wantClause 193 = .ok (.iconst 0, 1) := dop_3 (dn_w dw135_12 1 rfl)
theorem dX9_wantClause_194 : decode cX9_wantClause 194 = .ok (.putfield 148, 3) := dop_181 (dn_w dw135_12 2 rfl) rfl
theorem dX9_wantClause_197 : decode cX9_wantClause 197 = .ok (.return_, 1) := dop_177 (dn_w dw135_12 5 rfl)
noncomputable def dt136_17 : List Nat := 3 :: 181 :: 0 :: 199 :: 42 :: 180 :: 0 :: 91 :: 172 :: []
noncomputable def dt136_16 : List Nat := 25 :: 27 :: 42 :: 180 :: 0 :: 50 :: 27 :: 46 :: 79 :: 132 :: 1 :: 1 :: 167 :: 255 :: 236 :: 42 :: dt136_17
noncomputable def dt136_15 : List Nat := 132 :: 1 :: 1 :: 167 :: 255 :: 221 :: 3 :: 60 :: 27 :: 7 :: 162 :: 0 :: 21 :: 42 :: 180 :: 0 :: dt136_16
noncomputable def dt136_14 : List Nat := 46 :: 79 :: 42 :: 180 :: 0 :: 19 :: 27 :: 3 :: 79 :: 42 :: 180 :: 0 :: 22 :: 27 :: 3 :: 79 :: dt136_15
noncomputable def dt136_13 : List Nat := 27 :: 16 :: 40 :: 162 :: 0 :: 35 :: 42 :: 180 :: 0 :: 16 :: 27 :: 42 :: 180 :: 0 :: 47 :: 27 :: dt136_14
noncomputable def dt136_12 : List Nat := 96 :: 42 :: 180 :: 0 :: 44 :: 27 :: 46 :: 79 :: 132 :: 1 :: 1 :: 167 :: 255 :: 231 :: 3 :: 60 :: dt136_13
noncomputable def dt136_11 : List Nat := 3 :: 60 :: 27 :: 42 :: 180 :: 0 :: 91 :: 162 :: 0 :: 23 :: 42 :: 180 :: 0 :: 13 :: 4 :: 27 :: dt136_12
noncomputable def dt136_10 : List Nat := 132 :: 1 :: 1 :: 167 :: 255 :: 240 :: 42 :: 180 :: 0 :: 13 :: 3 :: 42 :: 180 :: 0 :: 186 :: 79 :: dt136_11
noncomputable def dt136_9 : List Nat := 235 :: 3 :: 60 :: 27 :: 16 :: 25 :: 162 :: 0 :: 16 :: 42 :: 180 :: 0 :: 13 :: 27 :: 3 :: 79 :: dt136_10
noncomputable def dt136_8 : List Nat := 180 :: 0 :: 7 :: 27 :: 42 :: 180 :: 0 :: 41 :: 27 :: 46 :: 79 :: 132 :: 1 :: 1 :: 167 :: 255 :: dt136_9
noncomputable def dt136_7 : List Nat := 42 :: 180 :: 0 :: 158 :: 181 :: 0 :: 91 :: 3 :: 60 :: 27 :: 16 :: 32 :: 162 :: 0 :: 21 :: 42 :: dt136_8
noncomputable def dt136_6 : List Nat := 42 :: 180 :: 0 :: 148 :: 154 :: 0 :: 11 :: 16 :: 156 :: 42 :: 180 :: 0 :: 102 :: 100 :: 172 :: 42 :: dt136_7
noncomputable def dt136_5 : List Nat := 116 :: 153 :: 0 :: 10 :: 42 :: 182 :: 0 :: 196 :: 167 :: 255 :: 238 :: 42 :: 3 :: 181 :: 0 :: 94 :: dt136_6
noncomputable def dt136_4 : List Nat := 255 :: 236 :: 42 :: 182 :: 0 :: 152 :: 42 :: 180 :: 0 :: 148 :: 153 :: 0 :: 17 :: 42 :: 180 :: 0 :: dt136_5
noncomputable def dt136_3 : List Nat := 42 :: 180 :: 0 :: 50 :: 27 :: 42 :: 180 :: 0 :: 25 :: 27 :: 46 :: 79 :: 132 :: 1 :: 1 :: 167 :: dt136_4
noncomputable def dt136_2 : List Nat := 27 :: 3 :: 79 :: 132 :: 1 :: 1 :: 167 :: 255 :: 240 :: 3 :: 60 :: 27 :: 7 :: 162 :: 0 :: 21 :: dt136_3
noncomputable def dt136_1 : List Nat := 3 :: 181 :: 0 :: 186 :: 3 :: 60 :: 27 :: 16 :: 40 :: 162 :: 0 :: 16 :: 42 :: 180 :: 0 :: 47 :: dt136_2
noncomputable def dt136_0 : List Nat := 42 :: 3 :: 181 :: 0 :: 99 :: 42 :: 4 :: 181 :: 0 :: 148 :: 42 :: 3 :: 181 :: 0 :: 158 :: 42 :: dt136_1
theorem dw136_0 : dn cX9_school 0 = dt136_0 := by decide +kernel
theorem dw136_1 : dn cX9_school 16 = dt136_1 := dn_w dw136_0 16 rfl
theorem dw136_2 : dn cX9_school 32 = dt136_2 := dn_w dw136_1 16 rfl
theorem dw136_3 : dn cX9_school 48 = dt136_3 := dn_w dw136_2 16 rfl
theorem dw136_4 : dn cX9_school 64 = dt136_4 := dn_w dw136_3 16 rfl
theorem dw136_5 : dn cX9_school 80 = dt136_5 := dn_w dw136_4 16 rfl
theorem dw136_6 : dn cX9_school 96 = dt136_6 := dn_w dw136_5 16 rfl
theorem dw136_7 : dn cX9_school 112 = dt136_7 := dn_w dw136_6 16 rfl
theorem dw136_8 : dn cX9_school 128 = dt136_8 := dn_w dw136_7 16 rfl
theorem dw136_9 : dn cX9_school 144 = dt136_9 := dn_w dw136_8 16 rfl
theorem dw136_10 : dn cX9_school 160 = dt136_10 := dn_w dw136_9 16 rfl
theorem dw136_11 : dn cX9_school 176 = dt136_11 := dn_w dw136_10 16 rfl
theorem dw136_12 : dn cX9_school 192 = dt136_12 := dn_w dw136_11 16 rfl
theorem dw136_13 : dn cX9_school 208 = dt136_13 := dn_w dw136_12 16 rfl
theorem dw136_14 : dn cX9_school 224 = dt136_14 := dn_w dw136_13 16 rfl
theorem dw136_15 : dn cX9_school 240 = dt136_15 := dn_w dw136_14 16 rfl
theorem dw136_16 : dn cX9_school 256 = dt136_16 := dn_w dw136_15 16 rfl
theorem dw136_17 : dn cX9_school 272 = dt136_17 := dn_w dw136_16 16 rfl
theorem dX9_school_0 : decode cX9_school 0 = .ok (.aload_n 0, 1) := dop_42 (dn_w dw136_0 0 rfl)
theorem dX9_school_1 : decode cX9_school 1 = .ok (.iconst 0, 1) := dop_3 (dn_w dw136_0 1 rfl)
theorem dX9_school_2 : decode cX9_school 2 = .ok (.putfield 99, 3) := dop_181 (dn_w dw136_0 2 rfl) rfl
theorem dX9_school_5 : decode cX9_school 5 = .ok (.aload_n 0, 1) := dop_42 (dn_w dw136_0 5 rfl)
theorem dX9_school_6 : decode cX9_school 6 = .ok (.iconst 1, 1) := dop_4 (dn_w dw136_0 6 rfl)
theorem dX9_school_7 : decode cX9_school 7 = .ok (.putfield 148, 3) := dop_181 (dn_w dw136_0 7 rfl) rfl
theorem dX9_school_10 : decode cX9_school 10 = .ok (.aload_n 0, 1) := dop_42 (dn_w dw136_0 10 rfl)
theorem dX9_school_11 : decode cX9_school 11 = .ok (.iconst 0, 1) := dop_3 (dn_w dw136_0 11 rfl)
theorem dX9_school_12 : decode cX9_school 12 = .ok (.putfield 158, 3) := dop_181 (dn_w dw136_0 12 rfl) rfl
theorem dX9_school_15 : decode cX9_school 15 = .ok (.aload_n 0, 1) := dop_42 (dn_w dw136_0 15 rfl)
theorem dX9_school_16 : decode cX9_school 16 = .ok (.iconst 0, 1) := dop_3 (dn_w dw136_1 0 rfl)
theorem dX9_school_17 : decode cX9_school 17 = .ok (.putfield 186, 3) := dop_181 (dn_w dw136_1 1 rfl) rfl
theorem dX9_school_20 : decode cX9_school 20 = .ok (.iconst 0, 1) := dop_3 (dn_w dw136_1 4 rfl)
theorem dX9_school_21 : decode cX9_school 21 = .ok (.istore_n 1, 1) := dop_60 (dn_w dw136_1 5 rfl)
theorem dX9_school_22 : decode cX9_school 22 = .ok (.iload_n 1, 1) := dop_27 (dn_w dw136_1 6 rfl)
theorem dX9_school_23 : decode cX9_school 23 = .ok (.bipush 40, 2) := dop_16 (dn_w dw136_1 7 rfl) rfl
theorem dX9_school_25 : decode cX9_school 25 = .ok (.if_icmp .ge 16, 3) := dop_162 (dn_w dw136_1 9 rfl) rfl
theorem dX9_school_28 : decode cX9_school 28 = .ok (.aload_n 0, 1) := dop_42 (dn_w dw136_1 12 rfl)
theorem dX9_school_29 : decode cX9_school 29 = .ok (.getfield 47, 3) := dop_180 (dn_w dw136_1 13 rfl) rfl
theorem dX9_school_32 : decode cX9_school 32 = .ok (.iload_n 1, 1) := dop_27 (dn_w dw136_2 0 rfl)
theorem dX9_school_33 : decode cX9_school 33 = .ok (.iconst 0, 1) := dop_3 (dn_w dw136_2 1 rfl)
theorem dX9_school_34 : decode cX9_school 34 = .ok (.iastore, 1) := dop_79 (dn_w dw136_2 2 rfl)
theorem dX9_school_35 : decode cX9_school 35 = .ok (.iinc 1 1, 3) := dop_132 (dn_w dw136_2 3 rfl) rfl
theorem dX9_school_38 : decode cX9_school 38 = .ok (.goto (-16), 3) := dop_167 (dn_w dw136_2 6 rfl) rfl
theorem dX9_school_41 : decode cX9_school 41 = .ok (.iconst 0, 1) := dop_3 (dn_w dw136_2 9 rfl)
theorem dX9_school_42 : decode cX9_school 42 = .ok (.istore_n 1, 1) := dop_60 (dn_w dw136_2 10 rfl)
theorem dX9_school_43 : decode cX9_school 43 = .ok (.iload_n 1, 1) := dop_27 (dn_w dw136_2 11 rfl)
theorem dX9_school_44 : decode cX9_school 44 = .ok (.iconst 4, 1) := dop_7 (dn_w dw136_2 12 rfl)
theorem dX9_school_45 : decode cX9_school 45 = .ok (.if_icmp .ge 21, 3) := dop_162 (dn_w dw136_2 13 rfl) rfl
theorem dX9_school_48 : decode cX9_school 48 = .ok (.aload_n 0, 1) := dop_42 (dn_w dw136_3 0 rfl)
theorem dX9_school_49 : decode cX9_school 49 = .ok (.getfield 50, 3) := dop_180 (dn_w dw136_3 1 rfl) rfl
theorem dX9_school_52 : decode cX9_school 52 = .ok (.iload_n 1, 1) := dop_27 (dn_w dw136_3 4 rfl)
theorem dX9_school_53 : decode cX9_school 53 = .ok (.aload_n 0, 1) := dop_42 (dn_w dw136_3 5 rfl)
theorem dX9_school_54 : decode cX9_school 54 = .ok (.getfield 25, 3) := dop_180 (dn_w dw136_3 6 rfl) rfl
theorem dX9_school_57 : decode cX9_school 57 = .ok (.iload_n 1, 1) := dop_27 (dn_w dw136_3 9 rfl)
theorem dX9_school_58 : decode cX9_school 58 = .ok (.iaload, 1) := dop_46 (dn_w dw136_3 10 rfl)
theorem dX9_school_59 : decode cX9_school 59 = .ok (.iastore, 1) := dop_79 (dn_w dw136_3 11 rfl)
theorem dX9_school_60 : decode cX9_school 60 = .ok (.iinc 1 1, 3) := dop_132 (dn_w dw136_3 12 rfl) rfl
theorem dX9_school_63 : decode cX9_school 63 = .ok (.goto (-20), 3) := dop_167 (dn_w dw136_3 15 rfl) rfl
theorem dX9_school_66 : decode cX9_school 66 = .ok (.aload_n 0, 1) := dop_42 (dn_w dw136_4 2 rfl)
theorem dX9_school_67 : decode cX9_school 67 = .ok (.invokevirtual 152, 3) := dop_182 (dn_w dw136_4 3 rfl) rfl
theorem dX9_school_70 : decode cX9_school 70 = .ok (.aload_n 0, 1) := dop_42 (dn_w dw136_4 6 rfl)
theorem dX9_school_71 : decode cX9_school 71 = .ok (.getfield 148, 3) := dop_180 (dn_w dw136_4 7 rfl) rfl
theorem dX9_school_74 : decode cX9_school 74 = .ok (.ifCond .eq 17, 3) := dop_153 (dn_w dw136_4 10 rfl) rfl
theorem dX9_school_77 : decode cX9_school 77 = .ok (.aload_n 0, 1) := dop_42 (dn_w dw136_4 13 rfl)
theorem dX9_school_78 : decode cX9_school 78 = .ok (.getfield 116, 3) := dop_180 (dn_w dw136_4 14 rfl) rfl
theorem dX9_school_81 : decode cX9_school 81 = .ok (.ifCond .eq 10, 3) := dop_153 (dn_w dw136_5 1 rfl) rfl
theorem dX9_school_84 : decode cX9_school 84 = .ok (.aload_n 0, 1) := dop_42 (dn_w dw136_5 4 rfl)
theorem dX9_school_85 : decode cX9_school 85 = .ok (.invokevirtual 196, 3) := dop_182 (dn_w dw136_5 5 rfl) rfl
theorem dX9_school_88 : decode cX9_school 88 = .ok (.goto (-18), 3) := dop_167 (dn_w dw136_5 8 rfl) rfl
theorem dX9_school_91 : decode cX9_school 91 = .ok (.aload_n 0, 1) := dop_42 (dn_w dw136_5 11 rfl)
theorem dX9_school_92 : decode cX9_school 92 = .ok (.iconst 0, 1) := dop_3 (dn_w dw136_5 12 rfl)
theorem dX9_school_93 : decode cX9_school 93 = .ok (.putfield 94, 3) := dop_181 (dn_w dw136_5 13 rfl) rfl
theorem dX9_school_96 : decode cX9_school 96 = .ok (.aload_n 0, 1) := dop_42 (dn_w dw136_6 0 rfl)
theorem dX9_school_97 : decode cX9_school 97 = .ok (.getfield 148, 3) := dop_180 (dn_w dw136_6 1 rfl) rfl
theorem dX9_school_100 : decode cX9_school 100 = .ok (.ifCond .ne 11, 3) := dop_154 (dn_w dw136_6 4 rfl) rfl
theorem dX9_school_103 : decode cX9_school 103 = .ok (.bipush (-100), 2) := dop_16 (dn_w dw136_6 7 rfl) rfl
theorem dX9_school_105 : decode cX9_school 105 = .ok (.aload_n 0, 1) := dop_42 (dn_w dw136_6 9 rfl)
theorem dX9_school_106 : decode cX9_school 106 = .ok (.getfield 102, 3) := dop_180 (dn_w dw136_6 10 rfl) rfl
theorem dX9_school_109 : decode cX9_school 109 = .ok (.isub, 1) := dop_100 (dn_w dw136_6 13 rfl)
theorem dX9_school_110 : decode cX9_school 110 = .ok (.ireturn, 1) := dop_172 (dn_w dw136_6 14 rfl)
theorem dX9_school_111 : decode cX9_school 111 = .ok (.aload_n 0, 1) := dop_42 (dn_w dw136_6 15 rfl)
theorem dX9_school_112 : decode cX9_school 112 = .ok (.aload_n 0, 1) := dop_42 (dn_w dw136_7 0 rfl)
theorem dX9_school_113 : decode cX9_school 113 = .ok (.getfield 158, 3) := dop_180 (dn_w dw136_7 1 rfl) rfl
theorem dX9_school_116 : decode cX9_school 116 = .ok (.putfield 91, 3) := dop_181 (dn_w dw136_7 4 rfl) rfl
theorem dX9_school_119 : decode cX9_school 119 = .ok (.iconst 0, 1) := dop_3 (dn_w dw136_7 7 rfl)
theorem dX9_school_120 : decode cX9_school 120 = .ok (.istore_n 1, 1) := dop_60 (dn_w dw136_7 8 rfl)
theorem dX9_school_121 : decode cX9_school 121 = .ok (.iload_n 1, 1) := dop_27 (dn_w dw136_7 9 rfl)
theorem dX9_school_122 : decode cX9_school 122 = .ok (.bipush 32, 2) := dop_16 (dn_w dw136_7 10 rfl) rfl
theorem dX9_school_124 : decode cX9_school 124 = .ok (.if_icmp .ge 21, 3) := dop_162 (dn_w dw136_7 12 rfl) rfl
theorem dX9_school_127 : decode cX9_school 127 = .ok (.aload_n 0, 1) := dop_42 (dn_w dw136_7 15 rfl)
theorem dX9_school_128 : decode cX9_school 128 = .ok (.getfield 7, 3) := dop_180 (dn_w dw136_8 0 rfl) rfl
theorem dX9_school_131 : decode cX9_school 131 = .ok (.iload_n 1, 1) := dop_27 (dn_w dw136_8 3 rfl)
theorem dX9_school_132 : decode cX9_school 132 = .ok (.aload_n 0, 1) := dop_42 (dn_w dw136_8 4 rfl)
theorem dX9_school_133 : decode cX9_school 133 = .ok (.getfield 41, 3) := dop_180 (dn_w dw136_8 5 rfl) rfl
theorem dX9_school_136 : decode cX9_school 136 = .ok (.iload_n 1, 1) := dop_27 (dn_w dw136_8 8 rfl)
theorem dX9_school_137 : decode cX9_school 137 = .ok (.iaload, 1) := dop_46 (dn_w dw136_8 9 rfl)
theorem dX9_school_138 : decode cX9_school 138 = .ok (.iastore, 1) := dop_79 (dn_w dw136_8 10 rfl)
theorem dX9_school_139 : decode cX9_school 139 = .ok (.iinc 1 1, 3) := dop_132 (dn_w dw136_8 11 rfl) rfl
theorem dX9_school_142 : decode cX9_school 142 = .ok (.goto (-21), 3) := dop_167 (dn_w dw136_8 14 rfl) rfl
theorem dX9_school_145 : decode cX9_school 145 = .ok (.iconst 0, 1) := dop_3 (dn_w dw136_9 1 rfl)
theorem dX9_school_146 : decode cX9_school 146 = .ok (.istore_n 1, 1) := dop_60 (dn_w dw136_9 2 rfl)
theorem dX9_school_147 : decode cX9_school 147 = .ok (.iload_n 1, 1) := dop_27 (dn_w dw136_9 3 rfl)
theorem dX9_school_148 : decode cX9_school 148 = .ok (.bipush 25, 2) := dop_16 (dn_w dw136_9 4 rfl) rfl
theorem dX9_school_150 : decode cX9_school 150 = .ok (.if_icmp .ge 16, 3) := dop_162 (dn_w dw136_9 6 rfl) rfl
theorem dX9_school_153 : decode cX9_school 153 = .ok (.aload_n 0, 1) := dop_42 (dn_w dw136_9 9 rfl)
theorem dX9_school_154 : decode cX9_school 154 = .ok (.getfield 13, 3) := dop_180 (dn_w dw136_9 10 rfl) rfl
theorem dX9_school_157 : decode cX9_school 157 = .ok (.iload_n 1, 1) := dop_27 (dn_w dw136_9 13 rfl)
theorem dX9_school_158 : decode cX9_school 158 = .ok (.iconst 0, 1) := dop_3 (dn_w dw136_9 14 rfl)
theorem dX9_school_159 : decode cX9_school 159 = .ok (.iastore, 1) := dop_79 (dn_w dw136_9 15 rfl)
theorem dX9_school_160 : decode cX9_school 160 = .ok (.iinc 1 1, 3) := dop_132 (dn_w dw136_10 0 rfl) rfl
theorem dX9_school_163 : decode cX9_school 163 = .ok (.goto (-16), 3) := dop_167 (dn_w dw136_10 3 rfl) rfl
theorem dX9_school_166 : decode cX9_school 166 = .ok (.aload_n 0, 1) := dop_42 (dn_w dw136_10 6 rfl)
theorem dX9_school_167 : decode cX9_school 167 = .ok (.getfield 13, 3) := dop_180 (dn_w dw136_10 7 rfl) rfl
theorem dX9_school_170 : decode cX9_school 170 = .ok (.iconst 0, 1) := dop_3 (dn_w dw136_10 10 rfl)
theorem dX9_school_171 : decode cX9_school 171 = .ok (.aload_n 0, 1) := dop_42 (dn_w dw136_10 11 rfl)
theorem dX9_school_172 : decode cX9_school 172 = .ok (.getfield 186, 3) := dop_180 (dn_w dw136_10 12 rfl) rfl
theorem dX9_school_175 : decode cX9_school 175 = .ok (.iastore, 1) := dop_79 (dn_w dw136_10 15 rfl)
theorem dX9_school_176 : decode cX9_school 176 = .ok (.iconst 0, 1) := dop_3 (dn_w dw136_11 0 rfl)
theorem dX9_school_177 : decode cX9_school 177 = .ok (.istore_n 1, 1) := dop_60 (dn_w dw136_11 1 rfl)
theorem dX9_school_178 : decode cX9_school 178 = .ok (.iload_n 1, 1) := dop_27 (dn_w dw136_11 2 rfl)
theorem dX9_school_179 : decode cX9_school 179 = .ok (.aload_n 0, 1) := dop_42 (dn_w dw136_11 3 rfl)
theorem dX9_school_180 : decode cX9_school 180 = .ok (.getfield 91, 3) := dop_180 (dn_w dw136_11 4 rfl) rfl
theorem dX9_school_183 : decode cX9_school 183 = .ok (.if_icmp .ge 23, 3) := dop_162 (dn_w dw136_11 7 rfl) rfl
theorem dX9_school_186 : decode cX9_school 186 = .ok (.aload_n 0, 1) := dop_42 (dn_w dw136_11 10 rfl)
theorem dX9_school_187 : decode cX9_school 187 = .ok (.getfield 13, 3) := dop_180 (dn_w dw136_11 11 rfl) rfl
theorem dX9_school_190 : decode cX9_school 190 = .ok (.iconst 1, 1) := dop_4 (dn_w dw136_11 14 rfl)
theorem dX9_school_191 : decode cX9_school 191 = .ok (.iload_n 1, 1) := dop_27 (dn_w dw136_11 15 rfl)
theorem dX9_school_192 : decode cX9_school 192 = .ok (.iadd, 1) := dop_96 (dn_w dw136_12 0 rfl)
theorem dX9_school_193 : decode cX9_school 193 = .ok (.aload_n 0, 1) := dop_42 (dn_w dw136_12 1 rfl)
theorem dX9_school_194 : decode cX9_school 194 = .ok (.getfield 44, 3) := dop_180 (dn_w dw136_12 2 rfl) rfl
theorem dX9_school_197 : decode cX9_school 197 = .ok (.iload_n 1, 1) := dop_27 (dn_w dw136_12 5 rfl)
theorem dX9_school_198 : decode cX9_school 198 = .ok (.iaload, 1) := dop_46 (dn_w dw136_12 6 rfl)
theorem dX9_school_199 : decode cX9_school 199 = .ok (.iastore, 1) := dop_79 (dn_w dw136_12 7 rfl)
theorem dX9_school_200 : decode cX9_school 200 = .ok (.iinc 1 1, 3) := dop_132 (dn_w dw136_12 8 rfl) rfl
theorem dX9_school_203 : decode cX9_school 203 = .ok (.goto (-25), 3) := dop_167 (dn_w dw136_12 11 rfl) rfl
theorem dX9_school_206 : decode cX9_school 206 = .ok (.iconst 0, 1) := dop_3 (dn_w dw136_12 14 rfl)
theorem dX9_school_207 : decode cX9_school 207 = .ok (.istore_n 1, 1) := dop_60 (dn_w dw136_12 15 rfl)
theorem dX9_school_208 : decode cX9_school 208 = .ok (.iload_n 1, 1) := dop_27 (dn_w dw136_13 0 rfl)
theorem dX9_school_209 : decode cX9_school 209 = .ok (.bipush 40, 2) := dop_16 (dn_w dw136_13 1 rfl) rfl
theorem dX9_school_211 : decode cX9_school 211 = .ok (.if_icmp .ge 35, 3) := dop_162 (dn_w dw136_13 3 rfl) rfl
theorem dX9_school_214 : decode cX9_school 214 = .ok (.aload_n 0, 1) := dop_42 (dn_w dw136_13 6 rfl)
theorem dX9_school_215 : decode cX9_school 215 = .ok (.getfield 16, 3) := dop_180 (dn_w dw136_13 7 rfl) rfl
theorem dX9_school_218 : decode cX9_school 218 = .ok (.iload_n 1, 1) := dop_27 (dn_w dw136_13 10 rfl)
theorem dX9_school_219 : decode cX9_school 219 = .ok (.aload_n 0, 1) := dop_42 (dn_w dw136_13 11 rfl)
theorem dX9_school_220 : decode cX9_school 220 = .ok (.getfield 47, 3) := dop_180 (dn_w dw136_13 12 rfl) rfl
theorem dX9_school_223 : decode cX9_school 223 = .ok (.iload_n 1, 1) := dop_27 (dn_w dw136_13 15 rfl)
theorem dX9_school_224 : decode cX9_school 224 = .ok (.iaload, 1) := dop_46 (dn_w dw136_14 0 rfl)
theorem dX9_school_225 : decode cX9_school 225 = .ok (.iastore, 1) := dop_79 (dn_w dw136_14 1 rfl)
theorem dX9_school_226 : decode cX9_school 226 = .ok (.aload_n 0, 1) := dop_42 (dn_w dw136_14 2 rfl)
theorem dX9_school_227 : decode cX9_school 227 = .ok (.getfield 19, 3) := dop_180 (dn_w dw136_14 3 rfl) rfl
theorem dX9_school_230 : decode cX9_school 230 = .ok (.iload_n 1, 1) := dop_27 (dn_w dw136_14 6 rfl)
theorem dX9_school_231 : decode cX9_school 231 = .ok (.iconst 0, 1) := dop_3 (dn_w dw136_14 7 rfl)
theorem dX9_school_232 : decode cX9_school 232 = .ok (.iastore, 1) := dop_79 (dn_w dw136_14 8 rfl)
theorem dX9_school_233 : decode cX9_school 233 = .ok (.aload_n 0, 1) := dop_42 (dn_w dw136_14 9 rfl)
theorem dX9_school_234 : decode cX9_school 234 = .ok (.getfield 22, 3) := dop_180 (dn_w dw136_14 10 rfl) rfl
theorem dX9_school_237 : decode cX9_school 237 = .ok (.iload_n 1, 1) := dop_27 (dn_w dw136_14 13 rfl)
theorem dX9_school_238 : decode cX9_school 238 = .ok (.iconst 0, 1) := dop_3 (dn_w dw136_14 14 rfl)
theorem dX9_school_239 : decode cX9_school 239 = .ok (.iastore, 1) := dop_79 (dn_w dw136_14 15 rfl)
theorem dX9_school_240 : decode cX9_school 240 = .ok (.iinc 1 1, 3) := dop_132 (dn_w dw136_15 0 rfl) rfl
theorem dX9_school_243 : decode cX9_school 243 = .ok (.goto (-35), 3) := dop_167 (dn_w dw136_15 3 rfl) rfl
theorem dX9_school_246 : decode cX9_school 246 = .ok (.iconst 0, 1) := dop_3 (dn_w dw136_15 6 rfl)
theorem dX9_school_247 : decode cX9_school 247 = .ok (.istore_n 1, 1) := dop_60 (dn_w dw136_15 7 rfl)
theorem dX9_school_248 : decode cX9_school 248 = .ok (.iload_n 1, 1) := dop_27 (dn_w dw136_15 8 rfl)
theorem dX9_school_249 : decode cX9_school 249 = .ok (.iconst 4, 1) := dop_7 (dn_w dw136_15 9 rfl)
theorem dX9_school_250 : decode cX9_school 250 = .ok (.if_icmp .ge 21, 3) := dop_162 (dn_w dw136_15 10 rfl) rfl
theorem dX9_school_253 : decode cX9_school 253 = .ok (.aload_n 0, 1) := dop_42 (dn_w dw136_15 13 rfl)
theorem dX9_school_254 : decode cX9_school 254 = .ok (.getfield 25, 3) := dop_180 (dn_w dw136_15 14 rfl) rfl
theorem dX9_school_257 : decode cX9_school 257 = .ok (.iload_n 1, 1) := dop_27 (dn_w dw136_16 1 rfl)
theorem dX9_school_258 : decode cX9_school 258 = .ok (.aload_n 0, 1) := dop_42 (dn_w dw136_16 2 rfl)
theorem dX9_school_259 : decode cX9_school 259 = .ok (.getfield 50, 3) := dop_180 (dn_w dw136_16 3 rfl) rfl
theorem dX9_school_262 : decode cX9_school 262 = .ok (.iload_n 1, 1) := dop_27 (dn_w dw136_16 6 rfl)
theorem dX9_school_263 : decode cX9_school 263 = .ok (.iaload, 1) := dop_46 (dn_w dw136_16 7 rfl)
theorem dX9_school_264 : decode cX9_school 264 = .ok (.iastore, 1) := dop_79 (dn_w dw136_16 8 rfl)
theorem dX9_school_265 : decode cX9_school 265 = .ok (.iinc 1 1, 3) := dop_132 (dn_w dw136_16 9 rfl) rfl
theorem dX9_school_268 : decode cX9_school 268 = .ok (.goto (-20), 3) := dop_167 (dn_w dw136_16 12 rfl) rfl
theorem dX9_school_271 : decode cX9_school 271 = .ok (.aload_n 0, 1) := dop_42 (dn_w dw136_16 15 rfl)
theorem dX9_school_272 : decode cX9_school 272 = .ok (.iconst 0, 1) := dop_3 (dn_w dw136_17 0 rfl)
theorem dX9_school_273 : decode cX9_school 273 = .ok (.putfield 199, 3) := dop_181 (dn_w dw136_17 1 rfl) rfl
theorem dX9_school_276 : decode cX9_school 276 = .ok (.aload_n 0, 1) := dop_42 (dn_w dw136_17 4 rfl)
theorem dX9_school_277 : decode cX9_school 277 = .ok (.getfield 91, 3) := dop_180 (dn_w dw136_17 5 rfl) rfl
theorem dX9_school_280 : decode cX9_school 280 = .ok (.ireturn, 1) := dop_172 (dn_w dw136_17 8 rfl)
noncomputable def dt137_9 : List Nat := 91 :: 42 :: 180 :: 0 :: 91 :: 4 :: 100 :: 172 :: []
noncomputable def dt137_8 : List Nat := 42 :: 180 :: 0 :: 91 :: 96 :: 3 :: 79 :: 42 :: 89 :: 180 :: 0 :: 91 :: 4 :: 96 :: 181 :: 0 :: dt137_9
noncomputable def dt137_7 : List Nat := 13 :: 16 :: 9 :: 42 :: 180 :: 0 :: 91 :: 96 :: 3 :: 79 :: 42 :: 180 :: 0 :: 13 :: 16 :: 17 :: dt137_8
noncomputable def dt137_6 : List Nat := 79 :: 42 :: 180 :: 0 :: 13 :: 4 :: 42 :: 180 :: 0 :: 91 :: 96 :: 3 :: 79 :: 42 :: 180 :: 0 :: dt137_7
noncomputable def dt137_5 : List Nat := 29 :: 79 :: 42 :: 180 :: 0 :: 7 :: 7 :: 42 :: 180 :: 0 :: 91 :: 104 :: 6 :: 96 :: 21 :: 4 :: dt137_6
noncomputable def dt137_4 : List Nat := 4 :: 96 :: 28 :: 79 :: 42 :: 180 :: 0 :: 7 :: 7 :: 42 :: 180 :: 0 :: 91 :: 104 :: 5 :: 96 :: dt137_5
noncomputable def dt137_3 : List Nat := 180 :: 0 :: 91 :: 104 :: 27 :: 79 :: 42 :: 180 :: 0 :: 7 :: 7 :: 42 :: 180 :: 0 :: 91 :: 104 :: dt137_4
noncomputable def dt137_2 : List Nat := 0 :: 91 :: 16 :: 8 :: 160 :: 0 :: 6 :: 16 :: 254 :: 172 :: 42 :: 180 :: 0 :: 7 :: 7 :: 42 :: dt137_3
noncomputable def dt137_1 : List Nat := 14 :: 21 :: 4 :: 3 :: 16 :: 9 :: 184 :: 0 :: 87 :: 154 :: 0 :: 5 :: 2 :: 172 :: 42 :: 180 :: dt137_2
noncomputable def dt137_0 : List Nat := 27 :: 28 :: 184 :: 0 :: 202 :: 153 :: 0 :: 23 :: 29 :: 3 :: 8 :: 184 :: 0 :: 87 :: 153 :: 0 :: dt137_1
theorem dw137_0 : dn cX9_child 0 = dt137_0 := by decide +kernel
theorem dw137_1 : dn cX9_child 16 = dt137_1 := dn_w dw137_0 16 rfl
theorem dw137_2 : dn cX9_child 32 = dt137_2 := dn_w dw137_1 16 rfl
theorem dw137_3 : dn cX9_child 48 = dt137_3 := dn_w dw137_2 16 rfl
theorem dw137_4 : dn cX9_child 64 = dt137_4 := dn_w dw137_3 16 rfl
theorem dw137_5 : dn cX9_child 80 = dt137_5 := dn_w dw137_4 16 rfl
theorem dw137_6 : dn cX9_child 96 = dt137_6 := dn_w dw137_5 16 rfl
theorem dw137_7 : dn cX9_child 112 = dt137_7 := dn_w dw137_6 16 rfl
theorem dw137_8 : dn cX9_child 128 = dt137_8 := dn_w dw137_7 16 rfl
theorem dw137_9 : dn cX9_child 144 = dt137_9 := dn_w dw137_8 16 rfl
theorem dX9_child_0 : decode cX9_child 0 = .ok (.iload_n 1, 1) := dop_27 (dn_w dw137_0 0 rfl)
theorem dX9_child_1 : decode cX9_child 1 = .ok (.iload_n 2, 1) := dop_28 (dn_w dw137_0 1 rfl)
theorem dX9_child_2 : decode cX9_child 2 = .ok (.invokestatic 202, 3) := dop_184 (dn_w dw137_0 2 rfl) rfl
theorem dX9_child_5 : decode cX9_child 5 = .ok (.ifCond .eq 23, 3) := dop_153 (dn_w dw137_0 5 rfl) rfl
theorem dX9_child_8 : decode cX9_child 8 = .ok (.iload_n 3, 1) := dop_29 (dn_w dw137_0 8 rfl)
theorem dX9_child_9 : decode cX9_child 9 = .ok (.iconst 0, 1) := dop_3 (dn_w dw137_0 9 rfl)
theorem dX9_child_10 : decode cX9_child 10 = .ok (.iconst 5, 1) := dop_8 (dn_w dw137_0 10 rfl)
theorem dX9_child_11 : decode cX9_child 11 = .ok (.invokestatic 87, 3) := dop_184 (dn_w dw137_0 11 rfl) rfl
theorem dX9_child_14 : decode cX9_child 14 = .ok (.ifCond .eq 14, 3) := dop_153 (dn_w dw137_0 14 rfl) rfl
theorem dX9_child_17 : decode cX9_child 17 = .ok (.iload 4, 2) := dop_21 (dn_w dw137_1 1 rfl)
theorem dX9_child_19 : decode cX9_child 19 = .ok (.iconst 0, 1) := dop_3 (dn_w dw137_1 3 rfl)
theorem dX9_child_20 : decode cX9_child 20 = .ok (.bipush 9, 2) := dop_16 (dn_w dw137_1 4 rfl) rfl
theorem dX9_child_22 : decode cX9_child 22 = .ok (.invokestatic 87, 3) := dop_184 (dn_w dw137_1 6 rfl) rfl
theorem dX9_child_25 : decode cX9_child 25 = .ok (.ifCond .ne 5, 3) := dop_154 (dn_w dw137_1 9 rfl) rfl
theorem dX9_child_28 : decode cX9_child 28 = .ok (.iconst (-1), 1) := dop_2 (dn_w dw137_1 12 rfl)
theorem dX9_child_29 : decode cX9_child 29 = .ok (.ireturn, 1) := dop_172 (dn_w dw137_1 13 rfl)
theorem dX9_child_30 : decode cX9_child 30 = .ok (.aload_n 0, 1) := dop_42 (dn_w dw137_1 14 rfl)
theorem dX9_child_31 : decode cX9_child 31 = .ok (.getfield 91, 3) := dop_180 (dn_w dw137_1 15 rfl) rfl
theorem dX9_child_34 : decode cX9_child 34 = .ok (.bipush 8, 2) := dop_16 (dn_w dw137_2 2 rfl) rfl
theorem dX9_child_36 : decode cX9_child 36 = .ok (.if_icmp .ne 6, 3) := dop_160 (dn_w dw137_2 4 rfl) rfl
theorem dX9_child_39 : decode cX9_child 39 = .ok (.bipush (-2), 2) := dop_16 (dn_w dw137_2 7 rfl) rfl
theorem dX9_child_41 : decode cX9_child 41 = .ok (.ireturn, 1) := dop_172 (dn_w dw137_2 9 rfl)
theorem dX9_child_42 : decode cX9_child 42 = .ok (.aload_n 0, 1) := dop_42 (dn_w dw137_2 10 rfl)
theorem dX9_child_43 : decode cX9_child 43 = .ok (.getfield 7, 3) := dop_180 (dn_w dw137_2 11 rfl) rfl
theorem dX9_child_46 : decode cX9_child 46 = .ok (.iconst 4, 1) := dop_7 (dn_w dw137_2 14 rfl)
theorem dX9_child_47 : decode cX9_child 47 = .ok (.aload_n 0, 1) := dop_42 (dn_w dw137_2 15 rfl)
theorem dX9_child_48 : decode cX9_child 48 = .ok (.getfield 91, 3) := dop_180 (dn_w dw137_3 0 rfl) rfl
theorem dX9_child_51 : decode cX9_child 51 = .ok (.imul, 1) := dop_104 (dn_w dw137_3 3 rfl)
theorem dX9_child_52 : decode cX9_child 52 = .ok (.iload_n 1, 1) := dop_27 (dn_w dw137_3 4 rfl)
theorem dX9_child_53 : decode cX9_child 53 = .ok (.iastore, 1) := dop_79 (dn_w dw137_3 5 rfl)
theorem dX9_child_54 : decode cX9_child 54 = .ok (.aload_n 0, 1) := dop_42 (dn_w dw137_3 6 rfl)
theorem dX9_child_55 : decode cX9_child 55 = .ok (.getfield 7, 3) := dop_180 (dn_w dw137_3 7 rfl) rfl
theorem dX9_child_58 : decode cX9_child 58 = .ok (.iconst 4, 1) := dop_7 (dn_w dw137_3 10 rfl)
theorem dX9_child_59 : decode cX9_child 59 = .ok (.aload_n 0, 1) := dop_42 (dn_w dw137_3 11 rfl)
theorem dX9_child_60 : decode cX9_child 60 = .ok (.getfield 91, 3) := dop_180 (dn_w dw137_3 12 rfl) rfl
theorem dX9_child_63 : decode cX9_child 63 = .ok (.imul, 1) := dop_104 (dn_w dw137_3 15 rfl)
theorem dX9_child_64 : decode cX9_child 64 = .ok (.iconst 1, 1) := dop_4 (dn_w dw137_4 0 rfl)
theorem dX9_child_65 : decode cX9_child 65 = .ok (.iadd, 1) := dop_96 (dn_w dw137_4 1 rfl)
theorem dX9_child_66 : decode cX9_child 66 = .ok (.iload_n 2, 1) := dop_28 (dn_w dw137_4 2 rfl)
theorem dX9_child_67 : decode cX9_child 67 = .ok (.iastore, 1) := dop_79 (dn_w dw137_4 3 rfl)
theorem dX9_child_68 : decode cX9_child 68 = .ok (.aload_n 0, 1) := dop_42 (dn_w dw137_4 4 rfl)
theorem dX9_child_69 : decode cX9_child 69 = .ok (.getfield 7, 3) := dop_180 (dn_w dw137_4 5 rfl) rfl
theorem dX9_child_72 : decode cX9_child 72 = .ok (.iconst 4, 1) := dop_7 (dn_w dw137_4 8 rfl)
theorem dX9_child_73 : decode cX9_child 73 = .ok (.aload_n 0, 1) := dop_42 (dn_w dw137_4 9 rfl)
theorem dX9_child_74 : decode cX9_child 74 = .ok (.getfield 91, 3) := dop_180 (dn_w dw137_4 10 rfl) rfl
theorem dX9_child_77 : decode cX9_child 77 = .ok (.imul, 1) := dop_104 (dn_w dw137_4 13 rfl)
theorem dX9_child_78 : decode cX9_child 78 = .ok (.iconst 2, 1) := dop_5 (dn_w dw137_4 14 rfl)
theorem dX9_child_79 : decode cX9_child 79 = .ok (.iadd, 1) := dop_96 (dn_w dw137_4 15 rfl)
theorem dX9_child_80 : decode cX9_child 80 = .ok (.iload_n 3, 1) := dop_29 (dn_w dw137_5 0 rfl)
theorem dX9_child_81 : decode cX9_child 81 = .ok (.iastore, 1) := dop_79 (dn_w dw137_5 1 rfl)
theorem dX9_child_82 : decode cX9_child 82 = .ok (.aload_n 0, 1) := dop_42 (dn_w dw137_5 2 rfl)
theorem dX9_child_83 : decode cX9_child 83 = .ok (.getfield 7, 3) := dop_180 (dn_w dw137_5 3 rfl) rfl
theorem dX9_child_86 : decode cX9_child 86 = .ok (.iconst 4, 1) := dop_7 (dn_w dw137_5 6 rfl)
theorem dX9_child_87 : decode cX9_child 87 = .ok (.aload_n 0, 1) := dop_42 (dn_w dw137_5 7 rfl)
theorem dX9_child_88 : decode cX9_child 88 = .ok (.getfield 91, 3) := dop_180 (dn_w dw137_5 8 rfl) rfl
theorem dX9_child_91 : decode cX9_child 91 = .ok (.imul, 1) := dop_104 (dn_w dw137_5 11 rfl)
theorem dX9_child_92 : decode cX9_child 92 = .ok (.iconst 3, 1) := dop_6 (dn_w dw137_5 12 rfl)
theorem dX9_child_93 : decode cX9_child 93 = .ok (.iadd, 1) := dop_96 (dn_w dw137_5 13 rfl)
theorem dX9_child_94 : decode cX9_child 94 = .ok (.iload 4, 2) := dop_21 (dn_w dw137_5 14 rfl)
theorem dX9_child_96 : decode cX9_child 96 = .ok (.iastore, 1) := dop_79 (dn_w dw137_6 0 rfl)
theorem dX9_child_97 : decode cX9_child 97 = .ok (.aload_n 0, 1) := dop_42 (dn_w dw137_6 1 rfl)
theorem dX9_child_98 : decode cX9_child 98 = .ok (.getfield 13, 3) := dop_180 (dn_w dw137_6 2 rfl) rfl
theorem dX9_child_101 : decode cX9_child 101 = .ok (.iconst 1, 1) := dop_4 (dn_w dw137_6 5 rfl)
theorem dX9_child_102 : decode cX9_child 102 = .ok (.aload_n 0, 1) := dop_42 (dn_w dw137_6 6 rfl)
theorem dX9_child_103 : decode cX9_child 103 = .ok (.getfield 91, 3) := dop_180 (dn_w dw137_6 7 rfl) rfl
theorem dX9_child_106 : decode cX9_child 106 = .ok (.iadd, 1) := dop_96 (dn_w dw137_6 10 rfl)
theorem dX9_child_107 : decode cX9_child 107 = .ok (.iconst 0, 1) := dop_3 (dn_w dw137_6 11 rfl)
theorem dX9_child_108 : decode cX9_child 108 = .ok (.iastore, 1) := dop_79 (dn_w dw137_6 12 rfl)
theorem dX9_child_109 : decode cX9_child 109 = .ok (.aload_n 0, 1) := dop_42 (dn_w dw137_6 13 rfl)
theorem dX9_child_110 : decode cX9_child 110 = .ok (.getfield 13, 3) := dop_180 (dn_w dw137_6 14 rfl) rfl
theorem dX9_child_113 : decode cX9_child 113 = .ok (.bipush 9, 2) := dop_16 (dn_w dw137_7 1 rfl) rfl
theorem dX9_child_115 : decode cX9_child 115 = .ok (.aload_n 0, 1) := dop_42 (dn_w dw137_7 3 rfl)
theorem dX9_child_116 : decode cX9_child 116 = .ok (.getfield 91, 3) := dop_180 (dn_w dw137_7 4 rfl) rfl
theorem dX9_child_119 : decode cX9_child 119 = .ok (.iadd, 1) := dop_96 (dn_w dw137_7 7 rfl)
theorem dX9_child_120 : decode cX9_child 120 = .ok (.iconst 0, 1) := dop_3 (dn_w dw137_7 8 rfl)
theorem dX9_child_121 : decode cX9_child 121 = .ok (.iastore, 1) := dop_79 (dn_w dw137_7 9 rfl)
theorem dX9_child_122 : decode cX9_child 122 = .ok (.aload_n 0, 1) := dop_42 (dn_w dw137_7 10 rfl)
theorem dX9_child_123 : decode cX9_child 123 = .ok (.getfield 13, 3) := dop_180 (dn_w dw137_7 11 rfl) rfl
theorem dX9_child_126 : decode cX9_child 126 = .ok (.bipush 17, 2) := dop_16 (dn_w dw137_7 14 rfl) rfl
theorem dX9_child_128 : decode cX9_child 128 = .ok (.aload_n 0, 1) := dop_42 (dn_w dw137_8 0 rfl)
theorem dX9_child_129 : decode cX9_child 129 = .ok (.getfield 91, 3) := dop_180 (dn_w dw137_8 1 rfl) rfl
theorem dX9_child_132 : decode cX9_child 132 = .ok (.iadd, 1) := dop_96 (dn_w dw137_8 4 rfl)
theorem dX9_child_133 : decode cX9_child 133 = .ok (.iconst 0, 1) := dop_3 (dn_w dw137_8 5 rfl)
theorem dX9_child_134 : decode cX9_child 134 = .ok (.iastore, 1) := dop_79 (dn_w dw137_8 6 rfl)
theorem dX9_child_135 : decode cX9_child 135 = .ok (.aload_n 0, 1) := dop_42 (dn_w dw137_8 7 rfl)
theorem dX9_child_136 : decode cX9_child 136 = .ok (.dup, 1) := dop_89 (dn_w dw137_8 8 rfl)
theorem dX9_child_137 : decode cX9_child 137 = .ok (.getfield 91, 3) := dop_180 (dn_w dw137_8 9 rfl) rfl
theorem dX9_child_140 : decode cX9_child 140 = .ok (.iconst 1, 1) := dop_4 (dn_w dw137_8 12 rfl)
theorem dX9_child_141 : decode cX9_child 141 = .ok (.iadd, 1) := dop_96 (dn_w dw137_8 13 rfl)
theorem dX9_child_142 : decode cX9_child 142 = .ok (.putfield 91, 3) := dop_181 (dn_w dw137_8 14 rfl) rfl
theorem dX9_child_145 : decode cX9_child 145 = .ok (.aload_n 0, 1) := dop_42 (dn_w dw137_9 1 rfl)
theorem dX9_child_146 : decode cX9_child 146 = .ok (.getfield 91, 3) := dop_180 (dn_w dw137_9 2 rfl) rfl
theorem dX9_child_149 : decode cX9_child 149 = .ok (.iconst 1, 1) := dop_4 (dn_w dw137_9 5 rfl)
theorem dX9_child_150 : decode cX9_child 150 = .ok (.isub, 1) := dop_100 (dn_w dw137_9 6 rfl)
theorem dX9_child_151 : decode cX9_child 151 = .ok (.ireturn, 1) := dop_172 (dn_w dw137_9 7 rfl)
noncomputable def dt138_3 : List Nat := 8 :: 160 :: 0 :: 8 :: 16 :: 9 :: 167 :: 0 :: 5 :: 16 :: 17 :: 27 :: 96 :: 46 :: 172 :: []
noncomputable def dt138_2 : List Nat := 0 :: 31 :: 42 :: 180 :: 0 :: 13 :: 28 :: 7 :: 160 :: 0 :: 7 :: 4 :: 167 :: 0 :: 15 :: 28 :: dt138_3
noncomputable def dt138_1 : List Nat := 0 :: 5 :: 2 :: 172 :: 28 :: 7 :: 162 :: 0 :: 12 :: 42 :: 27 :: 28 :: 182 :: 0 :: 209 :: 167 :: dt138_2
noncomputable def dt138_0 : List Nat := 42 :: 27 :: 182 :: 0 :: 206 :: 153 :: 0 :: 13 :: 28 :: 3 :: 16 :: 6 :: 184 :: 0 :: 87 :: 154 :: dt138_1
theorem dw138_0 : dn cX9_childOf 0 = dt138_0 := by decide +kernel
theorem dw138_1 : dn cX9_childOf 16 = dt138_1 := dn_w dw138_0 16 rfl
theorem dw138_2 : dn cX9_childOf 32 = dt138_2 := dn_w dw138_1 16 rfl
theorem dw138_3 : dn cX9_childOf 48 = dt138_3 := dn_w dw138_2 16 rfl
theorem dX9_childOf_0 : decode cX9_childOf 0 = .ok (.aload_n 0, 1) := dop_42 (dn_w dw138_0 0 rfl)
theorem dX9_childOf_1 : decode cX9_childOf 1 = .ok (.iload_n 1, 1) := dop_27 (dn_w dw138_0 1 rfl)
theorem dX9_childOf_2 : decode cX9_childOf 2 = .ok (.invokevirtual 206, 3) := dop_182 (dn_w dw138_0 2 rfl) rfl
theorem dX9_childOf_5 : decode cX9_childOf 5 = .ok (.ifCond .eq 13, 3) := dop_153 (dn_w dw138_0 5 rfl) rfl
theorem dX9_childOf_8 : decode cX9_childOf 8 = .ok (.iload_n 2, 1) := dop_28 (dn_w dw138_0 8 rfl)
theorem dX9_childOf_9 : decode cX9_childOf 9 = .ok (.iconst 0, 1) := dop_3 (dn_w dw138_0 9 rfl)
theorem dX9_childOf_10 : decode cX9_childOf 10 = .ok (.bipush 6, 2) := dop_16 (dn_w dw138_0 10 rfl) rfl
theorem dX9_childOf_12 : decode cX9_childOf 12 = .ok (.invokestatic 87, 3) := dop_184 (dn_w dw138_0 12 rfl) rfl
theorem dX9_childOf_15 : decode cX9_childOf 15 = .ok (.ifCond .ne 5, 3) := dop_154 (dn_w dw138_0 15 rfl) rfl
theorem dX9_childOf_18 : decode cX9_childOf 18 = .ok (.iconst (-1), 1) := dop_2 (dn_w dw138_1 2 rfl)
theorem dX9_childOf_19 : decode cX9_childOf 19 = .ok (.ireturn, 1) := dop_172 (dn_w dw138_1 3 rfl)
theorem dX9_childOf_20 : decode cX9_childOf 20 = .ok (.iload_n 2, 1) := dop_28 (dn_w dw138_1 4 rfl)
theorem dX9_childOf_21 : decode cX9_childOf 21 = .ok (.iconst 4, 1) := dop_7 (dn_w dw138_1 5 rfl)
theorem dX9_childOf_22 : decode cX9_childOf 22 = .ok (.if_icmp .ge 12, 3) := dop_162 (dn_w dw138_1 6 rfl) rfl
theorem dX9_childOf_25 : decode cX9_childOf 25 = .ok (.aload_n 0, 1) := dop_42 (dn_w dw138_1 9 rfl)
theorem dX9_childOf_26 : decode cX9_childOf 26 = .ok (.iload_n 1, 1) := dop_27 (dn_w dw138_1 10 rfl)
theorem dX9_childOf_27 : decode cX9_childOf 27 = .ok (.iload_n 2, 1) := dop_28 (dn_w dw138_1 11 rfl)
theorem dX9_childOf_28 : decode cX9_childOf 28 = .ok (.invokevirtual 209, 3) := dop_182 (dn_w dw138_1 12 rfl) rfl
theorem dX9_childOf_31 : decode cX9_childOf 31 = .ok (.goto 31, 3) := dop_167 (dn_w dw138_1 15 rfl) rfl
theorem dX9_childOf_34 : decode cX9_childOf 34 = .ok (.aload_n 0, 1) := dop_42 (dn_w dw138_2 2 rfl)
theorem dX9_childOf_35 : decode cX9_childOf 35 = .ok (.getfield 13, 3) := dop_180 (dn_w dw138_2 3 rfl) rfl
theorem dX9_childOf_38 : decode cX9_childOf 38 = .ok (.iload_n 2, 1) := dop_28 (dn_w dw138_2 6 rfl)
theorem dX9_childOf_39 : decode cX9_childOf 39 = .ok (.iconst 4, 1) := dop_7 (dn_w dw138_2 7 rfl)
theorem dX9_childOf_40 : decode cX9_childOf 40 = .ok (.if_icmp .ne 7, 3) := dop_160 (dn_w dw138_2 8 rfl) rfl
theorem dX9_childOf_43 : decode cX9_childOf 43 = .ok (.iconst 1, 1) := dop_4 (dn_w dw138_2 11 rfl)
theorem dX9_childOf_44 : decode cX9_childOf 44 = .ok (.goto 15, 3) := dop_167 (dn_w dw138_2 12 rfl) rfl
theorem dX9_childOf_47 : decode cX9_childOf 47 = .ok (.iload_n 2, 1) := dop_28 (dn_w dw138_2 15 rfl)
theorem dX9_childOf_48 : decode cX9_childOf 48 = .ok (.iconst 5, 1) := dop_8 (dn_w dw138_3 0 rfl)
theorem dX9_childOf_49 : decode cX9_childOf 49 = .ok (.if_icmp .ne 8, 3) := dop_160 (dn_w dw138_3 1 rfl) rfl
theorem dX9_childOf_52 : decode cX9_childOf 52 = .ok (.bipush 9, 2) := dop_16 (dn_w dw138_3 4 rfl) rfl
theorem dX9_childOf_54 : decode cX9_childOf 54 = .ok (.goto 5, 3) := dop_167 (dn_w dw138_3 6 rfl) rfl
theorem dX9_childOf_57 : decode cX9_childOf 57 = .ok (.bipush 17, 2) := dop_16 (dn_w dw138_3 9 rfl) rfl
theorem dX9_childOf_59 : decode cX9_childOf 59 = .ok (.iload_n 1, 1) := dop_27 (dn_w dw138_3 11 rfl)
theorem dX9_childOf_60 : decode cX9_childOf 60 = .ok (.iadd, 1) := dop_96 (dn_w dw138_3 12 rfl)
theorem dX9_childOf_61 : decode cX9_childOf 61 = .ok (.iaload, 1) := dop_46 (dn_w dw138_3 13 rfl)
theorem dX9_childOf_62 : decode cX9_childOf 62 = .ok (.ireturn, 1) := dop_172 (dn_w dw138_3 14 rfl)
noncomputable def dt139_3 : List Nat := 172 :: []
noncomputable def dt139_2 : List Nat := 104 :: 28 :: 79 :: 42 :: 180 :: 0 :: 7 :: 7 :: 27 :: 104 :: 4 :: 96 :: 29 :: 79 :: 21 :: 4 :: dt139_3
noncomputable def dt139_1 : List Nat := 2 :: 172 :: 42 :: 27 :: 3 :: 182 :: 0 :: 209 :: 54 :: 4 :: 42 :: 180 :: 0 :: 7 :: 7 :: 27 :: dt139_2
noncomputable def dt139_0 : List Nat := 42 :: 27 :: 182 :: 0 :: 206 :: 153 :: 0 :: 11 :: 28 :: 29 :: 184 :: 0 :: 202 :: 154 :: 0 :: 5 :: dt139_1
theorem dw139_0 : dn cX9_mind 0 = dt139_0 := by decide +kernel
theorem dw139_1 : dn cX9_mind 16 = dt139_1 := dn_w dw139_0 16 rfl
theorem dw139_2 : dn cX9_mind 32 = dt139_2 := dn_w dw139_1 16 rfl
theorem dw139_3 : dn cX9_mind 48 = dt139_3 := dn_w dw139_2 16 rfl
theorem dX9_mind_0 : decode cX9_mind 0 = .ok (.aload_n 0, 1) := dop_42 (dn_w dw139_0 0 rfl)
theorem dX9_mind_1 : decode cX9_mind 1 = .ok (.iload_n 1, 1) := dop_27 (dn_w dw139_0 1 rfl)
theorem dX9_mind_2 : decode cX9_mind 2 = .ok (.invokevirtual 206, 3) := dop_182 (dn_w dw139_0 2 rfl) rfl
theorem dX9_mind_5 : decode cX9_mind 5 = .ok (.ifCond .eq 11, 3) := dop_153 (dn_w dw139_0 5 rfl) rfl
theorem dX9_mind_8 : decode cX9_mind 8 = .ok (.iload_n 2, 1) := dop_28 (dn_w dw139_0 8 rfl)
theorem dX9_mind_9 : decode cX9_mind 9 = .ok (.iload_n 3, 1) := dop_29 (dn_w dw139_0 9 rfl)
theorem dX9_mind_10 : decode cX9_mind 10 = .ok (.invokestatic 202, 3) := dop_184 (dn_w dw139_0 10 rfl) rfl
theorem dX9_mind_13 : decode cX9_mind 13 = .ok (.ifCond .ne 5, 3) := dop_154 (dn_w dw139_0 13 rfl) rfl
theorem dX9_mind_16 : decode cX9_mind 16 = .ok (.iconst (-1), 1) := dop_2 (dn_w dw139_1 0 rfl)
theorem dX9_mind_17 : decode cX9_mind 17 = .ok (.ireturn, 1) := dop_172 (dn_w dw139_1 1 rfl)
theorem dX9_mind_18 : decode cX9_mind 18 = .ok (.aload_n 0, 1) := dop_42 (dn_w dw139_1 2 rfl)
theorem dX9_mind_19 : decode cX9_mind 19 = .ok (.iload_n 1, 1) := dop_27 (dn_w dw139_1 3 rfl)
theorem dX9_mind_20 : decode cX9_mind 20 = .ok (.iconst 0, 1) := dop_3 (dn_w dw139_1 4 rfl)
theorem dX9_mind_21 : decode cX9_mind 21 = .ok (.invokevirtual 209, 3) := dop_182 (dn_w dw139_1 5 rfl) rfl
theorem dX9_mind_24 : decode cX9_mind 24 = .ok (.istore 4, 2) := dop_54 (dn_w dw139_1 8 rfl)
theorem dX9_mind_26 : decode cX9_mind 26 = .ok (.aload_n 0, 1) := dop_42 (dn_w dw139_1 10 rfl)
theorem dX9_mind_27 : decode cX9_mind 27 = .ok (.getfield 7, 3) := dop_180 (dn_w dw139_1 11 rfl) rfl
theorem dX9_mind_30 : decode cX9_mind 30 = .ok (.iconst 4, 1) := dop_7 (dn_w dw139_1 14 rfl)
theorem dX9_mind_31 : decode cX9_mind 31 = .ok (.iload_n 1, 1) := dop_27 (dn_w dw139_1 15 rfl)
theorem dX9_mind_32 : decode cX9_mind 32 = .ok (.imul, 1) := dop_104 (dn_w dw139_2 0 rfl)
theorem dX9_mind_33 : decode cX9_mind 33 = .ok (.iload_n 2, 1) := dop_28 (dn_w dw139_2 1 rfl)
theorem dX9_mind_34 : decode cX9_mind 34 = .ok (.iastore, 1) := dop_79 (dn_w dw139_2 2 rfl)
theorem dX9_mind_35 : decode cX9_mind 35 = .ok (.aload_n 0, 1) := dop_42 (dn_w dw139_2 3 rfl)
theorem dX9_mind_36 : decode cX9_mind 36 = .ok (.getfield 7, 3) := dop_180 (dn_w dw139_2 4 rfl) rfl
theorem dX9_mind_39 : decode cX9_mind 39 = .ok (.iconst 4, 1) := dop_7 (dn_w dw139_2 7 rfl)
theorem dX9_mind_40 : decode cX9_mind 40 = .ok (.iload_n 1, 1) := dop_27 (dn_w dw139_2 8 rfl)
theorem dX9_mind_41 : decode cX9_mind 41 = .ok (.imul, 1) := dop_104 (dn_w dw139_2 9 rfl)
theorem dX9_mind_42 : decode cX9_mind 42 = .ok (.iconst 1, 1) := dop_4 (dn_w dw139_2 10 rfl)
theorem dX9_mind_43 : decode cX9_mind 43 = .ok (.iadd, 1) := dop_96 (dn_w dw139_2 11 rfl)
theorem dX9_mind_44 : decode cX9_mind 44 = .ok (.iload_n 3, 1) := dop_29 (dn_w dw139_2 12 rfl)
theorem dX9_mind_45 : decode cX9_mind 45 = .ok (.iastore, 1) := dop_79 (dn_w dw139_2 13 rfl)
theorem dX9_mind_46 : decode cX9_mind 46 = .ok (.iload 4, 2) := dop_21 (dn_w dw139_2 14 rfl)
theorem dX9_mind_48 : decode cX9_mind 48 = .ok (.ireturn, 1) := dop_172 (dn_w dw139_3 0 rfl)
noncomputable def dt140_2 : List Nat := 13 :: 4 :: 27 :: 96 :: 28 :: 79 :: 29 :: 172 :: []
noncomputable def dt140_1 : List Nat := 0 :: 5 :: 2 :: 172 :: 42 :: 180 :: 0 :: 13 :: 4 :: 27 :: 96 :: 46 :: 62 :: 42 :: 180 :: 0 :: dt140_2
noncomputable def dt140_0 : List Nat := 42 :: 27 :: 182 :: 0 :: 206 :: 153 :: 0 :: 13 :: 28 :: 3 :: 16 :: 20 :: 184 :: 0 :: 87 :: 154 :: dt140_1
theorem dw140_0 : dn cX9_sick 0 = dt140_0 := by decide +kernel
theorem dw140_1 : dn cX9_sick 16 = dt140_1 := dn_w dw140_0 16 rfl
theorem dw140_2 : dn cX9_sick 32 = dt140_2 := dn_w dw140_1 16 rfl
theorem dX9_sick_0 : decode cX9_sick 0 = .ok (.aload_n 0, 1) := dop_42 (dn_w dw140_0 0 rfl)
theorem dX9_sick_1 : decode cX9_sick 1 = .ok (.iload_n 1, 1) := dop_27 (dn_w dw140_0 1 rfl)
theorem dX9_sick_2 : decode cX9_sick 2 = .ok (.invokevirtual 206, 3) := dop_182 (dn_w dw140_0 2 rfl) rfl
theorem dX9_sick_5 : decode cX9_sick 5 = .ok (.ifCond .eq 13, 3) := dop_153 (dn_w dw140_0 5 rfl) rfl
theorem dX9_sick_8 : decode cX9_sick 8 = .ok (.iload_n 2, 1) := dop_28 (dn_w dw140_0 8 rfl)
theorem dX9_sick_9 : decode cX9_sick 9 = .ok (.iconst 0, 1) := dop_3 (dn_w dw140_0 9 rfl)
theorem dX9_sick_10 : decode cX9_sick 10 = .ok (.bipush 20, 2) := dop_16 (dn_w dw140_0 10 rfl) rfl
theorem dX9_sick_12 : decode cX9_sick 12 = .ok (.invokestatic 87, 3) := dop_184 (dn_w dw140_0 12 rfl) rfl
theorem dX9_sick_15 : decode cX9_sick 15 = .ok (.ifCond .ne 5, 3) := dop_154 (dn_w dw140_0 15 rfl) rfl
theorem dX9_sick_18 : decode cX9_sick 18 = .ok (.iconst (-1), 1) := dop_2 (dn_w dw140_1 2 rfl)
theorem dX9_sick_19 : decode cX9_sick 19 = .ok (.ireturn, 1) := dop_172 (dn_w dw140_1 3 rfl)
theorem dX9_sick_20 : decode cX9_sick 20 = .ok (.aload_n 0, 1) := dop_42 (dn_w dw140_1 4 rfl)
theorem dX9_sick_21 : decode cX9_sick 21 = .ok (.getfield 13, 3) := dop_180 (dn_w dw140_1 5 rfl) rfl
theorem dX9_sick_24 : decode cX9_sick 24 = .ok (.iconst 1, 1) := dop_4 (dn_w dw140_1 8 rfl)
theorem dX9_sick_25 : decode cX9_sick 25 = .ok (.iload_n 1, 1) := dop_27 (dn_w dw140_1 9 rfl)
theorem dX9_sick_26 : decode cX9_sick 26 = .ok (.iadd, 1) := dop_96 (dn_w dw140_1 10 rfl)
theorem dX9_sick_27 : decode cX9_sick 27 = .ok (.iaload, 1) := dop_46 (dn_w dw140_1 11 rfl)
theorem dX9_sick_28 : decode cX9_sick 28 = .ok (.istore_n 3, 1) := dop_62 (dn_w dw140_1 12 rfl)
theorem dX9_sick_29 : decode cX9_sick 29 = .ok (.aload_n 0, 1) := dop_42 (dn_w dw140_1 13 rfl)
theorem dX9_sick_30 : decode cX9_sick 30 = .ok (.getfield 13, 3) := dop_180 (dn_w dw140_1 14 rfl) rfl
theorem dX9_sick_33 : decode cX9_sick 33 = .ok (.iconst 1, 1) := dop_4 (dn_w dw140_2 1 rfl)
theorem dX9_sick_34 : decode cX9_sick 34 = .ok (.iload_n 1, 1) := dop_27 (dn_w dw140_2 2 rfl)
theorem dX9_sick_35 : decode cX9_sick 35 = .ok (.iadd, 1) := dop_96 (dn_w dw140_2 3 rfl)
theorem dX9_sick_36 : decode cX9_sick 36 = .ok (.iload_n 2, 1) := dop_28 (dn_w dw140_2 4 rfl)
theorem dX9_sick_37 : decode cX9_sick 37 = .ok (.iastore, 1) := dop_79 (dn_w dw140_2 5 rfl)
theorem dX9_sick_38 : decode cX9_sick 38 = .ok (.iload_n 3, 1) := dop_29 (dn_w dw140_2 6 rfl)
theorem dX9_sick_39 : decode cX9_sick 39 = .ok (.ireturn, 1) := dop_172 (dn_w dw140_2 7 rfl)
noncomputable def dt141_2 : List Nat := 79 :: 29 :: 172 :: []
noncomputable def dt141_1 : List Nat := 5 :: 2 :: 172 :: 42 :: 180 :: 0 :: 16 :: 27 :: 46 :: 62 :: 42 :: 180 :: 0 :: 16 :: 27 :: 28 :: dt141_2
noncomputable def dt141_0 : List Nat := 27 :: 184 :: 0 :: 212 :: 153 :: 0 :: 13 :: 28 :: 3 :: 16 :: 31 :: 184 :: 0 :: 87 :: 154 :: 0 :: dt141_1
theorem dw141_0 : dn cX9_event 0 = dt141_0 := by decide +kernel
theorem dw141_1 : dn cX9_event 16 = dt141_1 := dn_w dw141_0 16 rfl
theorem dw141_2 : dn cX9_event 32 = dt141_2 := dn_w dw141_1 16 rfl
theorem dX9_event_0 : decode cX9_event 0 = .ok (.iload_n 1, 1) := dop_27 (dn_w dw141_0 0 rfl)
theorem dX9_event_1 : decode cX9_event 1 = .ok (.invokestatic 212, 3) := dop_184 (dn_w dw141_0 1 rfl) rfl
theorem dX9_event_4 : decode cX9_event 4 = .ok (.ifCond .eq 13, 3) := dop_153 (dn_w dw141_0 4 rfl) rfl
theorem dX9_event_7 : decode cX9_event 7 = .ok (.iload_n 2, 1) := dop_28 (dn_w dw141_0 7 rfl)
theorem dX9_event_8 : decode cX9_event 8 = .ok (.iconst 0, 1) := dop_3 (dn_w dw141_0 8 rfl)
theorem dX9_event_9 : decode cX9_event 9 = .ok (.bipush 31, 2) := dop_16 (dn_w dw141_0 9 rfl) rfl
theorem dX9_event_11 : decode cX9_event 11 = .ok (.invokestatic 87, 3) := dop_184 (dn_w dw141_0 11 rfl) rfl
theorem dX9_event_14 : decode cX9_event 14 = .ok (.ifCond .ne 5, 3) := dop_154 (dn_w dw141_0 14 rfl) rfl
theorem dX9_event_17 : decode cX9_event 17 = .ok (.iconst (-1), 1) := dop_2 (dn_w dw141_1 1 rfl)
theorem dX9_event_18 : decode cX9_event 18 = .ok (.ireturn, 1) := dop_172 (dn_w dw141_1 2 rfl)
theorem dX9_event_19 : decode cX9_event 19 = .ok (.aload_n 0, 1) := dop_42 (dn_w dw141_1 3 rfl)
theorem dX9_event_20 : decode cX9_event 20 = .ok (.getfield 16, 3) := dop_180 (dn_w dw141_1 4 rfl) rfl
theorem dX9_event_23 : decode cX9_event 23 = .ok (.iload_n 1, 1) := dop_27 (dn_w dw141_1 7 rfl)
theorem dX9_event_24 : decode cX9_event 24 = .ok (.iaload, 1) := dop_46 (dn_w dw141_1 8 rfl)
theorem dX9_event_25 : decode cX9_event 25 = .ok (.istore_n 3, 1) := dop_62 (dn_w dw141_1 9 rfl)
theorem dX9_event_26 : decode cX9_event 26 = .ok (.aload_n 0, 1) := dop_42 (dn_w dw141_1 10 rfl)
theorem dX9_event_27 : decode cX9_event 27 = .ok (.getfield 16, 3) := dop_180 (dn_w dw141_1 11 rfl) rfl
theorem dX9_event_30 : decode cX9_event 30 = .ok (.iload_n 1, 1) := dop_27 (dn_w dw141_1 14 rfl)
theorem dX9_event_31 : decode cX9_event 31 = .ok (.iload_n 2, 1) := dop_28 (dn_w dw141_1 15 rfl)
theorem dX9_event_32 : decode cX9_event 32 = .ok (.iastore, 1) := dop_79 (dn_w dw141_2 0 rfl)
theorem dX9_event_33 : decode cX9_event 33 = .ok (.iload_n 3, 1) := dop_29 (dn_w dw141_2 1 rfl)
theorem dX9_event_34 : decode cX9_event 34 = .ok (.ireturn, 1) := dop_172 (dn_w dw141_2 2 rfl)
noncomputable def dt142_3 : List Nat := 6 :: 160 :: 0 :: 12 :: 42 :: 180 :: 0 :: 22 :: 27 :: 46 :: 167 :: 0 :: 4 :: 2 :: 172 :: []
noncomputable def dt142_2 : List Nat := 32 :: 28 :: 5 :: 160 :: 0 :: 12 :: 42 :: 180 :: 0 :: 19 :: 27 :: 46 :: 167 :: 0 :: 18 :: 28 :: dt142_3
noncomputable def dt142_1 : List Nat := 16 :: 27 :: 46 :: 167 :: 0 :: 43 :: 28 :: 4 :: 160 :: 0 :: 9 :: 27 :: 8 :: 112 :: 167 :: 0 :: dt142_2
noncomputable def dt142_0 : List Nat := 27 :: 184 :: 0 :: 212 :: 154 :: 0 :: 5 :: 2 :: 172 :: 28 :: 154 :: 0 :: 12 :: 42 :: 180 :: 0 :: dt142_1
theorem dw142_0 : dn cX9_dayOf 0 = dt142_0 := by decide +kernel
theorem dw142_1 : dn cX9_dayOf 16 = dt142_1 := dn_w dw142_0 16 rfl
theorem dw142_2 : dn cX9_dayOf 32 = dt142_2 := dn_w dw142_1 16 rfl
theorem dw142_3 : dn cX9_dayOf 48 = dt142_3 := dn_w dw142_2 16 rfl
theorem dX9_dayOf_0 : decode cX9_dayOf 0 = .ok (.iload_n 1, 1) := dop_27 (dn_w dw142_0 0 rfl)
theorem dX9_dayOf_1 : decode cX9_dayOf 1 = .ok (.invokestatic 212, 3) := dop_184 (dn_w dw142_0 1 rfl) rfl
theorem dX9_dayOf_4 : decode cX9_dayOf 4 = .ok (.ifCond .ne 5, 3) := dop_154 (dn_w dw142_0 4 rfl) rfl
theorem dX9_dayOf_7 : decode cX9_dayOf 7 = .ok (.iconst (-1), 1) := dop_2 (dn_w dw142_0 7 rfl)
theorem dX9_dayOf_8 : decode cX9_dayOf 8 = .ok (.ireturn, 1) := dop_172 (dn_w dw142_0 8 rfl)
theorem dX9_dayOf_9 : decode cX9_dayOf 9 = .ok (.iload_n 2, 1) := dop_28 (dn_w dw142_0 9 rfl)
theorem dX9_dayOf_10 : decode cX9_dayOf 10 = .ok (.ifCond .ne 12, 3) := dop_154 (dn_w dw142_0 10 rfl) rfl
theorem dX9_dayOf_13 : decode cX9_dayOf 13 = .ok (.aload_n 0, 1) := dop_42 (dn_w dw142_0 13 rfl)
theorem dX9_dayOf_14 : decode cX9_dayOf 14 = .ok (.getfield 16, 3) := dop_180 (dn_w dw142_0 14 rfl) rfl
theorem dX9_dayOf_17 : decode cX9_dayOf 17 = .ok (.iload_n 1, 1) := dop_27 (dn_w dw142_1 1 rfl)
theorem dX9_dayOf_18 : decode cX9_dayOf 18 = .ok (.iaload, 1) := dop_46 (dn_w dw142_1 2 rfl)
theorem dX9_dayOf_19 : decode cX9_dayOf 19 = .ok (.goto 43, 3) := dop_167 (dn_w dw142_1 3 rfl) rfl
theorem dX9_dayOf_22 : decode cX9_dayOf 22 = .ok (.iload_n 2, 1) := dop_28 (dn_w dw142_1 6 rfl)
theorem dX9_dayOf_23 : decode cX9_dayOf 23 = .ok (.iconst 1, 1) := dop_4 (dn_w dw142_1 7 rfl)
theorem dX9_dayOf_24 : decode cX9_dayOf 24 = .ok (.if_icmp .ne 9, 3) := dop_160 (dn_w dw142_1 8 rfl) rfl
theorem dX9_dayOf_27 : decode cX9_dayOf 27 = .ok (.iload_n 1, 1) := dop_27 (dn_w dw142_1 11 rfl)
theorem dX9_dayOf_28 : decode cX9_dayOf 28 = .ok (.iconst 5, 1) := dop_8 (dn_w dw142_1 12 rfl)
theorem dX9_dayOf_29 : decode cX9_dayOf 29 = .ok (.irem, 1) := dop_112 (dn_w dw142_1 13 rfl)
theorem dX9_dayOf_30 : decode cX9_dayOf 30 = .ok (.goto 32, 3) := dop_167 (dn_w dw142_1 14 rfl) rfl
theorem dX9_dayOf_33 : decode cX9_dayOf 33 = .ok (.iload_n 2, 1) := dop_28 (dn_w dw142_2 1 rfl)
theorem dX9_dayOf_34 : decode cX9_dayOf 34 = .ok (.iconst 2, 1) := dop_5 (dn_w dw142_2 2 rfl)
theorem dX9_dayOf_35 : decode cX9_dayOf 35 = .ok (.if_icmp .ne 12, 3) := dop_160 (dn_w dw142_2 3 rfl) rfl
theorem dX9_dayOf_38 : decode cX9_dayOf 38 = .ok (.aload_n 0, 1) := dop_42 (dn_w dw142_2 6 rfl)
theorem dX9_dayOf_39 : decode cX9_dayOf 39 = .ok (.getfield 19, 3) := dop_180 (dn_w dw142_2 7 rfl) rfl
theorem dX9_dayOf_42 : decode cX9_dayOf 42 = .ok (.iload_n 1, 1) := dop_27 (dn_w dw142_2 10 rfl)
theorem dX9_dayOf_43 : decode cX9_dayOf 43 = .ok (.iaload, 1) := dop_46 (dn_w dw142_2 11 rfl)
theorem dX9_dayOf_44 : decode cX9_dayOf 44 = .ok (.goto 18, 3) := dop_167 (dn_w dw142_2 12 rfl) rfl
theorem dX9_dayOf_47 : decode cX9_dayOf 47 = .ok (.iload_n 2, 1) := dop_28 (dn_w dw142_2 15 rfl)
theorem dX9_dayOf_48 : decode cX9_dayOf 48 = .ok (.iconst 3, 1) := dop_6 (dn_w dw142_3 0 rfl)
theorem dX9_dayOf_49 : decode cX9_dayOf 49 = .ok (.if_icmp .ne 12, 3) := dop_160 (dn_w dw142_3 1 rfl) rfl
theorem dX9_dayOf_52 : decode cX9_dayOf 52 = .ok (.aload_n 0, 1) := dop_42 (dn_w dw142_3 4 rfl)
theorem dX9_dayOf_53 : decode cX9_dayOf 53 = .ok (.getfield 22, 3) := dop_180 (dn_w dw142_3 5 rfl) rfl
theorem dX9_dayOf_56 : decode cX9_dayOf 56 = .ok (.iload_n 1, 1) := dop_27 (dn_w dw142_3 8 rfl)
theorem dX9_dayOf_57 : decode cX9_dayOf 57 = .ok (.iaload, 1) := dop_46 (dn_w dw142_3 9 rfl)
theorem dX9_dayOf_58 : decode cX9_dayOf 58 = .ok (.goto 4, 3) := dop_167 (dn_w dw142_3 10 rfl) rfl
theorem dX9_dayOf_61 : decode cX9_dayOf 61 = .ok (.iconst (-1), 1) := dop_2 (dn_w dw142_3 13 rfl)
theorem dX9_dayOf_62 : decode cX9_dayOf 62 = .ok (.ireturn, 1) := dop_172 (dn_w dw142_3 14 rfl)
noncomputable def dt143_3 : List Nat := 4 :: 42 :: 180 :: 0 :: 25 :: 27 :: 28 :: 79 :: 21 :: 4 :: 172 :: []
noncomputable def dt143_2 : List Nat := 46 :: 184 :: 0 :: 87 :: 154 :: 0 :: 5 :: 2 :: 172 :: 42 :: 180 :: 0 :: 25 :: 27 :: 46 :: 54 :: dt143_3
noncomputable def dt143_1 : List Nat := 27 :: 160 :: 0 :: 22 :: 28 :: 42 :: 180 :: 0 :: 28 :: 29 :: 46 :: 42 :: 180 :: 0 :: 31 :: 29 :: dt143_2
noncomputable def dt143_0 : List Nat := 27 :: 3 :: 6 :: 184 :: 0 :: 87 :: 153 :: 0 :: 7 :: 27 :: 167 :: 0 :: 4 :: 3 :: 62 :: 29 :: dt143_1
theorem dw143_0 : dn cX9_set 0 = dt143_0 := by decide +kernel
theorem dw143_1 : dn cX9_set 16 = dt143_1 := dn_w dw143_0 16 rfl
theorem dw143_2 : dn cX9_set 32 = dt143_2 := dn_w dw143_1 16 rfl
theorem dw143_3 : dn cX9_set 48 = dt143_3 := dn_w dw143_2 16 rfl
theorem dX9_set_0 : decode cX9_set 0 = .ok (.iload_n 1, 1) := dop_27 (dn_w dw143_0 0 rfl)
theorem dX9_set_1 : decode cX9_set 1 = .ok (.iconst 0, 1) := dop_3 (dn_w dw143_0 1 rfl)
theorem dX9_set_2 : decode cX9_set 2 = .ok (.iconst 3, 1) := dop_6 (dn_w dw143_0 2 rfl)
theorem dX9_set_3 : decode cX9_set 3 = .ok (.invokestatic 87, 3) := dop_184 (dn_w dw143_0 3 rfl) rfl
theorem dX9_set_6 : decode cX9_set 6 = .ok (.ifCond .eq 7, 3) := dop_153 (dn_w dw143_0 6 rfl) rfl
theorem dX9_set_9 : decode cX9_set 9 = .ok (.iload_n 1, 1) := dop_27 (dn_w dw143_0 9 rfl)
theorem dX9_set_10 : decode cX9_set 10 = .ok (.goto 4, 3) := dop_167 (dn_w dw143_0 10 rfl) rfl
theorem dX9_set_13 : decode cX9_set 13 = .ok (.iconst 0, 1) := dop_3 (dn_w dw143_0 13 rfl)
theorem dX9_set_14 : decode cX9_set 14 = .ok (.istore_n 3, 1) := dop_62 (dn_w dw143_0 14 rfl)
theorem dX9_set_15 : decode cX9_set 15 = .ok (.iload_n 3, 1) := dop_29 (dn_w dw143_0 15 rfl)
theorem dX9_set_16 : decode cX9_set 16 = .ok (.iload_n 1, 1) := dop_27 (dn_w dw143_1 0 rfl)
theorem dX9_set_17 : decode cX9_set 17 = .ok (.if_icmp .ne 22, 3) := dop_160 (dn_w dw143_1 1 rfl) rfl
theorem dX9_set_20 : decode cX9_set 20 = .ok (.iload_n 2, 1) := dop_28 (dn_w dw143_1 4 rfl)
theorem dX9_set_21 : decode cX9_set 21 = .ok (.aload_n 0, 1) := dop_42 (dn_w dw143_1 5 rfl)
theorem dX9_set_22 : decode cX9_set 22 = .ok (.getfield 28, 3) := dop_180 (dn_w dw143_1 6 rfl) rfl
theorem dX9_set_25 : decode cX9_set 25 = .ok (.iload_n 3, 1) := dop_29 (dn_w dw143_1 9 rfl)
theorem dX9_set_26 : decode cX9_set 26 = .ok (.iaload, 1) := dop_46 (dn_w dw143_1 10 rfl)
theorem dX9_set_27 : decode cX9_set 27 = .ok (.aload_n 0, 1) := dop_42 (dn_w dw143_1 11 rfl)
theorem dX9_set_28 : decode cX9_set 28 = .ok (.getfield 31, 3) := dop_180 (dn_w dw143_1 12 rfl) rfl
theorem dX9_set_31 : decode cX9_set 31 = .ok (.iload_n 3, 1) := dop_29 (dn_w dw143_1 15 rfl)
theorem dX9_set_32 : decode cX9_set 32 = .ok (.iaload, 1) := dop_46 (dn_w dw143_2 0 rfl)
theorem dX9_set_33 : decode cX9_set 33 = .ok (.invokestatic 87, 3) := dop_184 (dn_w dw143_2 1 rfl) rfl
theorem dX9_set_36 : decode cX9_set 36 = .ok (.ifCond .ne 5, 3) := dop_154 (dn_w dw143_2 4 rfl) rfl
theorem dX9_set_39 : decode cX9_set 39 = .ok (.iconst (-1), 1) := dop_2 (dn_w dw143_2 7 rfl)
theorem dX9_set_40 : decode cX9_set 40 = .ok (.ireturn, 1) := dop_172 (dn_w dw143_2 8 rfl)
theorem dX9_set_41 : decode cX9_set 41 = .ok (.aload_n 0, 1) := dop_42 (dn_w dw143_2 9 rfl)
theorem dX9_set_42 : decode cX9_set 42 = .ok (.getfield 25, 3) := dop_180 (dn_w dw143_2 10 rfl) rfl
theorem dX9_set_45 : decode cX9_set 45 = .ok (.iload_n 1, 1) := dop_27 (dn_w dw143_2 13 rfl)
theorem dX9_set_46 : decode cX9_set 46 = .ok (.iaload, 1) := dop_46 (dn_w dw143_2 14 rfl)
theorem dX9_set_47 : decode cX9_set 47 = .ok (.istore 4, 2) := dop_54 (dn_w dw143_2 15 rfl)
theorem dX9_set_49 : decode cX9_set 49 = .ok (.aload_n 0, 1) := dop_42 (dn_w dw143_3 1 rfl)
theorem dX9_set_50 : decode cX9_set 50 = .ok (.getfield 25, 3) := dop_180 (dn_w dw143_3 2 rfl) rfl
theorem dX9_set_53 : decode cX9_set 53 = .ok (.iload_n 1, 1) := dop_27 (dn_w dw143_3 5 rfl)
theorem dX9_set_54 : decode cX9_set 54 = .ok (.iload_n 2, 1) := dop_28 (dn_w dw143_3 6 rfl)
theorem dX9_set_55 : decode cX9_set 55 = .ok (.iastore, 1) := dop_79 (dn_w dw143_3 7 rfl)
theorem dX9_set_56 : decode cX9_set 56 = .ok (.iload 4, 2) := dop_21 (dn_w dw143_3 8 rfl)
theorem dX9_set_58 : decode cX9_set 58 = .ok (.ireturn, 1) := dop_172 (dn_w dw143_3 10 rfl)
noncomputable def dt144_0 : List Nat := 42 :: 180 :: 0 :: 13 :: 3 :: 46 :: 172 :: []
theorem dw144_0 : dn cX9_today 0 = dt144_0 := by decide +kernel
theorem dX9_today_0 : decode cX9_today 0 = .ok (.aload_n 0, 1) := dop_42 (dn_w dw144_0 0 rfl)
theorem dX9_today_1 : decode cX9_today 1 = .ok (.getfield 13, 3) := dop_180 (dn_w dw144_0 1 rfl) rfl
theorem dX9_today_4 : decode cX9_today 4 = .ok (.iconst 0, 1) := dop_3 (dn_w dw144_0 4 rfl)
theorem dX9_today_5 : decode cX9_today 5 = .ok (.iaload, 1) := dop_46 (dn_w dw144_0 5 rfl)
theorem dX9_today_6 : decode cX9_today 6 = .ok (.ireturn, 1) := dop_172 (dn_w dw144_0 6 rfl)
noncomputable def dt145_0 : List Nat := 26 :: 27 :: 126 :: 153 :: 0 :: 7 :: 4 :: 167 :: 0 :: 4 :: 3 :: 172 :: []
theorem dw145_0 : dn cX9_has 0 = dt145_0 := by decide +kernel
theorem dX9_has_0 : decode cX9_has 0 = .ok (.iload_n 0, 1) := dop_26 (dn_w dw145_0 0 rfl)
theorem dX9_has_1 : decode cX9_has 1 = .ok (.iload_n 1, 1) := dop_27 (dn_w dw145_0 1 rfl)
theorem dX9_has_2 : decode cX9_has 2 = .ok (.iand, 1) := dop_126 (dn_w dw145_0 2 rfl)
theorem dX9_has_3 : decode cX9_has 3 = .ok (.ifCond .eq 7, 3) := dop_153 (dn_w dw145_0 3 rfl) rfl
theorem dX9_has_6 : decode cX9_has 6 = .ok (.iconst 1, 1) := dop_4 (dn_w dw145_0 6 rfl)
theorem dX9_has_7 : decode cX9_has 7 = .ok (.goto 4, 3) := dop_167 (dn_w dw145_0 7 rfl) rfl
theorem dX9_has_10 : decode cX9_has 10 = .ok (.iconst 0, 1) := dop_3 (dn_w dw145_0 10 rfl)
theorem dX9_has_11 : decode cX9_has 11 = .ok (.ireturn, 1) := dop_172 (dn_w dw145_0 11 rfl)
noncomputable def dt146_11 : List Nat := 172 :: 3 :: 172 :: []
noncomputable def dt146_10 : List Nat := 21 :: 5 :: 42 :: 180 :: 0 :: 25 :: 4 :: 46 :: 161 :: 0 :: 7 :: 4 :: 167 :: 0 :: 4 :: 3 :: dt146_11
noncomputable def dt146_9 : List Nat := 28 :: 8 :: 161 :: 0 :: 14 :: 21 :: 7 :: 153 :: 0 :: 20 :: 21 :: 7 :: 7 :: 159 :: 0 :: 14 :: dt146_10
noncomputable def dt146_8 : List Nat := 4 :: 184 :: 0 :: 215 :: 154 :: 0 :: 39 :: 21 :: 6 :: 7 :: 184 :: 0 :: 215 :: 154 :: 0 :: 30 :: dt146_9
noncomputable def dt146_7 : List Nat := 6 :: 4 :: 184 :: 0 :: 215 :: 153 :: 0 :: 7 :: 4 :: 167 :: 0 :: 4 :: 3 :: 172 :: 21 :: 6 :: dt146_8
noncomputable def dt146_6 : List Nat := 7 :: 4 :: 167 :: 0 :: 4 :: 3 :: 172 :: 21 :: 4 :: 172 :: 21 :: 4 :: 154 :: 0 :: 12 :: 21 :: dt146_7
noncomputable def dt146_5 : List Nat := 21 :: 7 :: 28 :: 8 :: 112 :: 159 :: 0 :: 12 :: 29 :: 28 :: 96 :: 5 :: 112 :: 4 :: 160 :: 0 :: dt146_6
noncomputable def dt146_4 : List Nat := 7 :: 4 :: 167 :: 0 :: 4 :: 3 :: 172 :: 21 :: 6 :: 5 :: 184 :: 0 :: 215 :: 154 :: 0 :: 20 :: dt146_5
noncomputable def dt146_3 : List Nat := 21 :: 6 :: 5 :: 184 :: 0 :: 215 :: 154 :: 0 :: 11 :: 21 :: 7 :: 28 :: 8 :: 112 :: 160 :: 0 :: dt146_4
noncomputable def dt146_2 : List Nat := 0 :: 0 :: 0 :: 89 :: 0 :: 0 :: 0 :: 112 :: 0 :: 0 :: 0 :: 57 :: 0 :: 0 :: 0 :: 92 :: dt146_3
noncomputable def dt146_1 : List Nat := 0 :: 0 :: 0 :: 163 :: 0 :: 0 :: 0 :: 1 :: 0 :: 0 :: 0 :: 5 :: 0 :: 0 :: 0 :: 34 :: dt146_2
noncomputable def dt146_0 : List Nat := 42 :: 180 :: 0 :: 16 :: 29 :: 46 :: 54 :: 6 :: 29 :: 8 :: 112 :: 54 :: 7 :: 27 :: 170 :: 0 :: dt146_1
theorem dw146_0 : dn cX9_staysAway 0 = dt146_0 := by decide +kernel
theorem dw146_1 : dn cX9_staysAway 16 = dt146_1 := dn_w dw146_0 16 rfl
theorem dw146_2 : dn cX9_staysAway 32 = dt146_2 := dn_w dw146_1 16 rfl
theorem dw146_3 : dn cX9_staysAway 48 = dt146_3 := dn_w dw146_2 16 rfl
theorem dw146_4 : dn cX9_staysAway 64 = dt146_4 := dn_w dw146_3 16 rfl
theorem dw146_5 : dn cX9_staysAway 80 = dt146_5 := dn_w dw146_4 16 rfl
theorem dw146_6 : dn cX9_staysAway 96 = dt146_6 := dn_w dw146_5 16 rfl
theorem dw146_7 : dn cX9_staysAway 112 = dt146_7 := dn_w dw146_6 16 rfl
theorem dw146_8 : dn cX9_staysAway 128 = dt146_8 := dn_w dw146_7 16 rfl
theorem dw146_9 : dn cX9_staysAway 144 = dt146_9 := dn_w dw146_8 16 rfl
theorem dw146_10 : dn cX9_staysAway 160 = dt146_10 := dn_w dw146_9 16 rfl
theorem dw146_11 : dn cX9_staysAway 176 = dt146_11 := dn_w dw146_10 16 rfl
theorem dX9_staysAway_0 : decode cX9_staysAway 0 = .ok (.aload_n 0, 1) := dop_42 (dn_w dw146_0 0 rfl)
theorem dX9_staysAway_1 : decode cX9_staysAway 1 = .ok (.getfield 16, 3) := dop_180 (dn_w dw146_0 1 rfl) rfl
theorem dX9_staysAway_4 : decode cX9_staysAway 4 = .ok (.iload_n 3, 1) := dop_29 (dn_w dw146_0 4 rfl)
theorem dX9_staysAway_5 : decode cX9_staysAway 5 = .ok (.iaload, 1) := dop_46 (dn_w dw146_0 5 rfl)
theorem dX9_staysAway_6 : decode cX9_staysAway 6 = .ok (.istore 6, 2) := dop_54 (dn_w dw146_0 6 rfl)
theorem dX9_staysAway_8 : decode cX9_staysAway 8 = .ok (.iload_n 3, 1) := dop_29 (dn_w dw146_0 8 rfl)
theorem dX9_staysAway_9 : decode cX9_staysAway 9 = .ok (.iconst 5, 1) := dop_8 (dn_w dw146_0 9 rfl)
theorem dX9_staysAway_10 : decode cX9_staysAway 10 = .ok (.irem, 1) := dop_112 (dn_w dw146_0 10 rfl)
theorem dX9_staysAway_11 : decode cX9_staysAway 11 = .ok (.istore 7, 2) := dop_54 (dn_w dw146_0 11 rfl)
theorem dX9_staysAway_13 : decode cX9_staysAway 13 = .ok (.iload_n 1, 1) := dop_27 (dn_w dw146_0 13 rfl)
theorem dX9_staysAway_14 : decode cX9_staysAway 14 = .ok (.tableswitch 163 1 5 #[34, 89, 112, 57, 92], 34) := by decide +kernel
theorem dX9_staysAway_48 : decode cX9_staysAway 48 = .ok (.iload 6, 2) := dop_21 (dn_w dw146_3 0 rfl)
theorem dX9_staysAway_50 : decode cX9_staysAway 50 = .ok (.iconst 2, 1) := dop_5 (dn_w dw146_3 2 rfl)
theorem dX9_staysAway_51 : decode cX9_staysAway 51 = .ok (.invokestatic 215, 3) := dop_184 (dn_w dw146_3 3 rfl) rfl
theorem dX9_staysAway_54 : decode cX9_staysAway 54 = .ok (.ifCond .ne 11, 3) := dop_154 (dn_w dw146_3 6 rfl) rfl
theorem dX9_staysAway_57 : decode cX9_staysAway 57 = .ok (.iload 7, 2) := dop_21 (dn_w dw146_3 9 rfl)
theorem dX9_staysAway_59 : decode cX9_staysAway 59 = .ok (.iload_n 2, 1) := dop_28 (dn_w dw146_3 11 rfl)
theorem dX9_staysAway_60 : decode cX9_staysAway 60 = .ok (.iconst 5, 1) := dop_8 (dn_w dw146_3 12 rfl)
theorem dX9_staysAway_61 : decode cX9_staysAway 61 = .ok (.irem, 1) := dop_112 (dn_w dw146_3 13 rfl)
theorem dX9_staysAway_62 : decode cX9_staysAway 62 = .ok (.if_icmp .ne 7, 3) := dop_160 (dn_w dw146_3 14 rfl) rfl
theorem dX9_staysAway_65 : decode cX9_staysAway 65 = .ok (.iconst 1, 1) := dop_4 (dn_w dw146_4 1 rfl)
theorem dX9_staysAway_66 : decode cX9_staysAway 66 = .ok (.goto 4, 3) := dop_167 (dn_w dw146_4 2 rfl) rfl
theorem dX9_staysAway_69 : decode cX9_staysAway 69 = .ok (.iconst 0, 1) := dop_3 (dn_w dw146_4 5 rfl)
theorem dX9_staysAway_70 : decode cX9_staysAway 70 = .ok (.ireturn, 1) := dop_172 (dn_w dw146_4 6 rfl)
theorem dX9_staysAway_71 : decode cX9_staysAway 71 = .ok (.iload 6, 2) := dop_21 (dn_w dw146_4 7 rfl)
theorem dX9_staysAway_73 : decode cX9_staysAway 73 = .ok (.iconst 2, 1) := dop_5 (dn_w dw146_4 9 rfl)
theorem dX9_staysAway_74 : decode cX9_staysAway 74 = .ok (.invokestatic 215, 3) := dop_184 (dn_w dw146_4 10 rfl) rfl
theorem dX9_staysAway_77 : decode cX9_staysAway 77 = .ok (.ifCond .ne 20, 3) := dop_154 (dn_w dw146_4 13 rfl) rfl
theorem dX9_staysAway_80 : decode cX9_staysAway 80 = .ok (.iload 7, 2) := dop_21 (dn_w dw146_5 0 rfl)
theorem dX9_staysAway_82 : decode cX9_staysAway 82 = .ok (.iload_n 2, 1) := dop_28 (dn_w dw146_5 2 rfl)
theorem dX9_staysAway_83 : decode cX9_staysAway 83 = .ok (.iconst 5, 1) := dop_8 (dn_w dw146_5 3 rfl)
theorem dX9_staysAway_84 : decode cX9_staysAway 84 = .ok (.irem, 1) := dop_112 (dn_w dw146_5 4 rfl)
theorem dX9_staysAway_85 : decode cX9_staysAway 85 = .ok (.if_icmp .eq 12, 3) := dop_159 (dn_w dw146_5 5 rfl) rfl
theorem dX9_staysAway_88 : decode cX9_staysAway 88 = .ok (.iload_n 3, 1) := dop_29 (dn_w dw146_5 8 rfl)
theorem dX9_staysAway_89 : decode cX9_staysAway 89 = .ok (.iload_n 2, 1) := dop_28 (dn_w dw146_5 9 rfl)
theorem dX9_staysAway_90 : decode cX9_staysAway 90 = .ok (.iadd, 1) := dop_96 (dn_w dw146_5 10 rfl)
theorem dX9_staysAway_91 : decode cX9_staysAway 91 = .ok (.iconst 2, 1) := dop_5 (dn_w dw146_5 11 rfl)
theorem dX9_staysAway_92 : decode cX9_staysAway 92 = .ok (.irem, 1) := dop_112 (dn_w dw146_5 12 rfl)
theorem dX9_staysAway_93 : decode cX9_staysAway 93 = .ok (.iconst 1, 1) := dop_4 (dn_w dw146_5 13 rfl)
theorem dX9_staysAway_94 : decode cX9_staysAway 94 = .ok (.if_icmp .ne 7, 3) := dop_160 (dn_w dw146_5 14 rfl) rfl
theorem dX9_staysAway_97 : decode cX9_staysAway 97 = .ok (.iconst 1, 1) := dop_4 (dn_w dw146_6 1 rfl)
theorem dX9_staysAway_98 : decode cX9_staysAway 98 = .ok (.goto 4, 3) := dop_167 (dn_w dw146_6 2 rfl) rfl
theorem dX9_staysAway_101 : decode cX9_staysAway 101 = .ok (.iconst 0, 1) := dop_3 (dn_w dw146_6 5 rfl)
theorem dX9_staysAway_102 : decode cX9_staysAway 102 = .ok (.ireturn, 1) := dop_172 (dn_w dw146_6 6 rfl)
theorem dX9_staysAway_103 : decode cX9_staysAway 103 = .ok (.iload 4, 2) := dop_21 (dn_w dw146_6 7 rfl)
theorem dX9_staysAway_105 : decode cX9_staysAway 105 = .ok (.ireturn, 1) := dop_172 (dn_w dw146_6 9 rfl)
theorem dX9_staysAway_106 : decode cX9_staysAway 106 = .ok (.iload 4, 2) := dop_21 (dn_w dw146_6 10 rfl)
theorem dX9_staysAway_108 : decode cX9_staysAway 108 = .ok (.ifCond .ne 12, 3) := dop_154 (dn_w dw146_6 12 rfl) rfl
theorem dX9_staysAway_111 : decode cX9_staysAway 111 = .ok (.iload 6, 2) := dop_21 (dn_w dw146_6 15 rfl)
theorem dX9_staysAway_113 : decode cX9_staysAway 113 = .ok (.iconst 1, 1) := dop_4 (dn_w dw146_7 1 rfl)
theorem dX9_staysAway_114 : decode cX9_staysAway 114 = .ok (.invokestatic 215, 3) := dop_184 (dn_w dw146_7 2 rfl) rfl
theorem dX9_staysAway_117 : decode cX9_staysAway 117 = .ok (.ifCond .eq 7, 3) := dop_153 (dn_w dw146_7 5 rfl) rfl
theorem dX9_staysAway_120 : decode cX9_staysAway 120 = .ok (.iconst 1, 1) := dop_4 (dn_w dw146_7 8 rfl)
theorem dX9_staysAway_121 : decode cX9_staysAway 121 = .ok (.goto 4, 3) := dop_167 (dn_w dw146_7 9 rfl) rfl
theorem dX9_staysAway_124 : decode cX9_staysAway 124 = .ok (.iconst 0, 1) := dop_3 (dn_w dw146_7 12 rfl)
theorem dX9_staysAway_125 : decode cX9_staysAway 125 = .ok (.ireturn, 1) := dop_172 (dn_w dw146_7 13 rfl)
theorem dX9_staysAway_126 : decode cX9_staysAway 126 = .ok (.iload 6, 2) := dop_21 (dn_w dw146_7 14 rfl)
theorem dX9_staysAway_128 : decode cX9_staysAway 128 = .ok (.iconst 1, 1) := dop_4 (dn_w dw146_8 0 rfl)
theorem dX9_staysAway_129 : decode cX9_staysAway 129 = .ok (.invokestatic 215, 3) := dop_184 (dn_w dw146_8 1 rfl) rfl
theorem dX9_staysAway_132 : decode cX9_staysAway 132 = .ok (.ifCond .ne 39, 3) := dop_154 (dn_w dw146_8 4 rfl) rfl
theorem dX9_staysAway_135 : decode cX9_staysAway 135 = .ok (.iload 6, 2) := dop_21 (dn_w dw146_8 7 rfl)
theorem dX9_staysAway_137 : decode cX9_staysAway 137 = .ok (.iconst 4, 1) := dop_7 (dn_w dw146_8 9 rfl)
theorem dX9_staysAway_138 : decode cX9_staysAway 138 = .ok (.invokestatic 215, 3) := dop_184 (dn_w dw146_8 10 rfl) rfl
theorem dX9_staysAway_141 : decode cX9_staysAway 141 = .ok (.ifCond .ne 30, 3) := dop_154 (dn_w dw146_8 13 rfl) rfl
theorem dX9_staysAway_144 : decode cX9_staysAway 144 = .ok (.iload_n 2, 1) := dop_28 (dn_w dw146_9 0 rfl)
theorem dX9_staysAway_145 : decode cX9_staysAway 145 = .ok (.iconst 5, 1) := dop_8 (dn_w dw146_9 1 rfl)
theorem dX9_staysAway_146 : decode cX9_staysAway 146 = .ok (.if_icmp .lt 14, 3) := dop_161 (dn_w dw146_9 2 rfl) rfl
theorem dX9_staysAway_149 : decode cX9_staysAway 149 = .ok (.iload 7, 2) := dop_21 (dn_w dw146_9 5 rfl)
theorem dX9_staysAway_151 : decode cX9_staysAway 151 = .ok (.ifCond .eq 20, 3) := dop_153 (dn_w dw146_9 7 rfl) rfl
theorem dX9_staysAway_154 : decode cX9_staysAway 154 = .ok (.iload 7, 2) := dop_21 (dn_w dw146_9 10 rfl)
theorem dX9_staysAway_156 : decode cX9_staysAway 156 = .ok (.iconst 4, 1) := dop_7 (dn_w dw146_9 12 rfl)
theorem dX9_staysAway_157 : decode cX9_staysAway 157 = .ok (.if_icmp .eq 14, 3) := dop_159 (dn_w dw146_9 13 rfl) rfl
theorem dX9_staysAway_160 : decode cX9_staysAway 160 = .ok (.iload 5, 2) := dop_21 (dn_w dw146_10 0 rfl)
theorem dX9_staysAway_162 : decode cX9_staysAway 162 = .ok (.aload_n 0, 1) := dop_42 (dn_w dw146_10 2 rfl)
theorem dX9_staysAway_163 : decode cX9_staysAway 163 = .ok (.getfield 25, 3) := dop_180 (dn_w dw146_10 3 rfl) rfl
theorem dX9_staysAway_166 : decode cX9_staysAway 166 = .ok (.iconst 1, 1) := dop_4 (dn_w dw146_10 6 rfl)
theorem dX9_staysAway_167 : decode cX9_staysAway 167 = .ok (.iaload, 1) := dop_46 (dn_w dw146_10 7 rfl)
theorem dX9_staysAway_168 : decode cX9_staysAway 168 = .ok (.if_icmp .lt 7, 3) := dop_161 (dn_w dw146_10 8 rfl) rfl
theorem dX9_staysAway_171 : decode cX9_staysAway 171 = .ok (.iconst 1, 1) := dop_4 (dn_w dw146_10 11 rfl)
theorem dX9_staysAway_172 : decode cX9_staysAway 172 = .ok (.goto 4, 3) := dop_167 (dn_w dw146_10 12 rfl) rfl
theorem dX9_staysAway_175 : decode cX9_staysAway 175 = .ok (.iconst 0, 1) := dop_3 (dn_w dw146_10 15 rfl)
theorem dX9_staysAway_176 : decode cX9_staysAway 176 = .ok (.ireturn, 1) := dop_172 (dn_w dw146_11 0 rfl)
theorem dX9_staysAway_177 : decode cX9_staysAway 177 = .ok (.iconst 0, 1) := dop_3 (dn_w dw146_11 1 rfl)
theorem dX9_staysAway_178 : decode cX9_staysAway 178 = .ok (.ireturn, 1) := dop_172 (dn_w dw146_11 2 rfl)
noncomputable def dt147_3 : List Nat := 5 :: 21 :: 7 :: 182 :: 0 :: 218 :: 153 :: 0 :: 7 :: 4 :: 167 :: 0 :: 4 :: 3 :: 172 :: []
noncomputable def dt147_2 : List Nat := 4 :: 46 :: 16 :: 8 :: 184 :: 0 :: 215 :: 154 :: 0 :: 22 :: 42 :: 27 :: 28 :: 21 :: 4 :: 21 :: dt147_3
noncomputable def dt147_1 : List Nat := 8 :: 164 :: 0 :: 5 :: 4 :: 172 :: 21 :: 6 :: 154 :: 0 :: 37 :: 42 :: 180 :: 0 :: 16 :: 21 :: dt147_2
noncomputable def dt147_0 : List Nat := 42 :: 180 :: 0 :: 16 :: 21 :: 4 :: 46 :: 16 :: 16 :: 184 :: 0 :: 215 :: 153 :: 0 :: 10 :: 29 :: dt147_1
theorem dw147_0 : dn cX9_isAway 0 = dt147_0 := by decide +kernel
theorem dw147_1 : dn cX9_isAway 16 = dt147_1 := dn_w dw147_0 16 rfl
theorem dw147_2 : dn cX9_isAway 32 = dt147_2 := dn_w dw147_1 16 rfl
theorem dw147_3 : dn cX9_isAway 48 = dt147_3 := dn_w dw147_2 16 rfl
theorem dX9_isAway_0 : decode cX9_isAway 0 = .ok (.aload_n 0, 1) := dop_42 (dn_w dw147_0 0 rfl)
theorem dX9_isAway_1 : decode cX9_isAway 1 = .ok (.getfield 16, 3) := dop_180 (dn_w dw147_0 1 rfl) rfl
theorem dX9_isAway_4 : decode cX9_isAway 4 = .ok (.iload 4, 2) := dop_21 (dn_w dw147_0 4 rfl)
theorem dX9_isAway_6 : decode cX9_isAway 6 = .ok (.iaload, 1) := dop_46 (dn_w dw147_0 6 rfl)
theorem dX9_isAway_7 : decode cX9_isAway 7 = .ok (.bipush 16, 2) := dop_16 (dn_w dw147_0 7 rfl) rfl
theorem dX9_isAway_9 : decode cX9_isAway 9 = .ok (.invokestatic 215, 3) := dop_184 (dn_w dw147_0 9 rfl) rfl
theorem dX9_isAway_12 : decode cX9_isAway 12 = .ok (.ifCond .eq 10, 3) := dop_153 (dn_w dw147_0 12 rfl) rfl
theorem dX9_isAway_15 : decode cX9_isAway 15 = .ok (.iload_n 3, 1) := dop_29 (dn_w dw147_0 15 rfl)
theorem dX9_isAway_16 : decode cX9_isAway 16 = .ok (.iconst 5, 1) := dop_8 (dn_w dw147_1 0 rfl)
theorem dX9_isAway_17 : decode cX9_isAway 17 = .ok (.if_icmp .le 5, 3) := dop_164 (dn_w dw147_1 1 rfl) rfl
theorem dX9_isAway_20 : decode cX9_isAway 20 = .ok (.iconst 1, 1) := dop_4 (dn_w dw147_1 4 rfl)
theorem dX9_isAway_21 : decode cX9_isAway 21 = .ok (.ireturn, 1) := dop_172 (dn_w dw147_1 5 rfl)
theorem dX9_isAway_22 : decode cX9_isAway 22 = .ok (.iload 6, 2) := dop_21 (dn_w dw147_1 6 rfl)
theorem dX9_isAway_24 : decode cX9_isAway 24 = .ok (.ifCond .ne 37, 3) := dop_154 (dn_w dw147_1 8 rfl) rfl
theorem dX9_isAway_27 : decode cX9_isAway 27 = .ok (.aload_n 0, 1) := dop_42 (dn_w dw147_1 11 rfl)
theorem dX9_isAway_28 : decode cX9_isAway 28 = .ok (.getfield 16, 3) := dop_180 (dn_w dw147_1 12 rfl) rfl
theorem dX9_isAway_31 : decode cX9_isAway 31 = .ok (.iload 4, 2) := dop_21 (dn_w dw147_1 15 rfl)
theorem dX9_isAway_33 : decode cX9_isAway 33 = .ok (.iaload, 1) := dop_46 (dn_w dw147_2 1 rfl)
theorem dX9_isAway_34 : decode cX9_isAway 34 = .ok (.bipush 8, 2) := dop_16 (dn_w dw147_2 2 rfl) rfl
theorem dX9_isAway_36 : decode cX9_isAway 36 = .ok (.invokestatic 215, 3) := dop_184 (dn_w dw147_2 4 rfl) rfl
theorem dX9_isAway_39 : decode cX9_isAway 39 = .ok (.ifCond .ne 22, 3) := dop_154 (dn_w dw147_2 7 rfl) rfl
theorem dX9_isAway_42 : decode cX9_isAway 42 = .ok (.aload_n 0, 1) := dop_42 (dn_w dw147_2 10 rfl)
theorem dX9_isAway_43 : decode cX9_isAway 43 = .ok (.iload_n 1, 1) := dop_27 (dn_w dw147_2 11 rfl)
theorem dX9_isAway_44 : decode cX9_isAway 44 = .ok (.iload_n 2, 1) := dop_28 (dn_w dw147_2 12 rfl)
theorem dX9_isAway_45 : decode cX9_isAway 45 = .ok (.iload 4, 2) := dop_21 (dn_w dw147_2 13 rfl)
theorem dX9_isAway_47 : decode cX9_isAway 47 = .ok (.iload 5, 2) := dop_21 (dn_w dw147_2 15 rfl)
theorem dX9_isAway_49 : decode cX9_isAway 49 = .ok (.iload 7, 2) := dop_21 (dn_w dw147_3 1 rfl)
theorem dX9_isAway_51 : decode cX9_isAway 51 = .ok (.invokevirtual 218, 3) := dop_182 (dn_w dw147_3 3 rfl) rfl
theorem dX9_isAway_54 : decode cX9_isAway 54 = .ok (.ifCond .eq 7, 3) := dop_153 (dn_w dw147_3 6 rfl) rfl
theorem dX9_isAway_57 : decode cX9_isAway 57 = .ok (.iconst 1, 1) := dop_4 (dn_w dw147_3 9 rfl)
theorem dX9_isAway_58 : decode cX9_isAway 58 = .ok (.goto 4, 3) := dop_167 (dn_w dw147_3 10 rfl) rfl
theorem dX9_isAway_61 : decode cX9_isAway 61 = .ok (.iconst 0, 1) := dop_3 (dn_w dw147_3 13 rfl)
theorem dX9_isAway_62 : decode cX9_isAway 62 = .ok (.ireturn, 1) := dop_172 (dn_w dw147_3 14 rfl)
noncomputable def dt148_5 : List Nat := 17 :: 96 :: 27 :: 96 :: 46 :: 182 :: 0 :: 225 :: 172 :: []
noncomputable def dt148_4 : List Nat := 0 :: 7 :: 4 :: 167 :: 0 :: 4 :: 3 :: 42 :: 180 :: 0 :: 13 :: 42 :: 180 :: 0 :: 222 :: 16 :: dt148_5
noncomputable def dt148_3 : List Nat := 3 :: 42 :: 180 :: 0 :: 13 :: 42 :: 180 :: 0 :: 222 :: 16 :: 9 :: 96 :: 27 :: 96 :: 46 :: 158 :: dt148_4
noncomputable def dt148_2 : List Nat := 42 :: 180 :: 0 :: 222 :: 4 :: 96 :: 27 :: 96 :: 46 :: 158 :: 0 :: 7 :: 4 :: 167 :: 0 :: 4 :: dt148_3
noncomputable def dt148_1 : List Nat := 182 :: 0 :: 209 :: 42 :: 180 :: 0 :: 13 :: 42 :: 180 :: 0 :: 222 :: 46 :: 42 :: 180 :: 0 :: 13 :: dt148_2
noncomputable def dt148_0 : List Nat := 42 :: 42 :: 27 :: 3 :: 182 :: 0 :: 209 :: 42 :: 27 :: 4 :: 182 :: 0 :: 209 :: 42 :: 27 :: 6 :: dt148_1
theorem dw148_0 : dn cX9_wouldBe 0 = dt148_0 := by decide +kernel
theorem dw148_1 : dn cX9_wouldBe 16 = dt148_1 := dn_w dw148_0 16 rfl
theorem dw148_2 : dn cX9_wouldBe 32 = dt148_2 := dn_w dw148_1 16 rfl
theorem dw148_3 : dn cX9_wouldBe 48 = dt148_3 := dn_w dw148_2 16 rfl
theorem dw148_4 : dn cX9_wouldBe 64 = dt148_4 := dn_w dw148_3 16 rfl
theorem dw148_5 : dn cX9_wouldBe 80 = dt148_5 := dn_w dw148_4 16 rfl
theorem dX9_wouldBe_0 : decode cX9_wouldBe 0 = .ok (.aload_n 0, 1) := dop_42 (dn_w dw148_0 0 rfl)
theorem dX9_wouldBe_1 : decode cX9_wouldBe 1 = .ok (.aload_n 0, 1) := dop_42 (dn_w dw148_0 1 rfl)
theorem dX9_wouldBe_2 : decode cX9_wouldBe 2 = .ok (.iload_n 1, 1) := dop_27 (dn_w dw148_0 2 rfl)
theorem dX9_wouldBe_3 : decode cX9_wouldBe 3 = .ok (.iconst 0, 1) := dop_3 (dn_w dw148_0 3 rfl)
theorem dX9_wouldBe_4 : decode cX9_wouldBe 4 = .ok (.invokevirtual 209, 3) := dop_182 (dn_w dw148_0 4 rfl) rfl
theorem dX9_wouldBe_7 : decode cX9_wouldBe 7 = .ok (.aload_n 0, 1) := dop_42 (dn_w dw148_0 7 rfl)
theorem dX9_wouldBe_8 : decode cX9_wouldBe 8 = .ok (.iload_n 1, 1) := dop_27 (dn_w dw148_0 8 rfl)
theorem dX9_wouldBe_9 : decode cX9_wouldBe 9 = .ok (.iconst 1, 1) := dop_4 (dn_w dw148_0 9 rfl)
theorem dX9_wouldBe_10 : decode cX9_wouldBe 10 = .ok (.invokevirtual 209, 3) := dop_182 (dn_w dw148_0 10 rfl) rfl
theorem dX9_wouldBe_13 : decode cX9_wouldBe 13 = .ok (.aload_n 0, 1) := dop_42 (dn_w dw148_0 13 rfl)
theorem dX9_wouldBe_14 : decode cX9_wouldBe 14 = .ok (.iload_n 1, 1) := dop_27 (dn_w dw148_0 14 rfl)
theorem dX9_wouldBe_15 : decode cX9_wouldBe 15 = .ok (.iconst 3, 1) := dop_6 (dn_w dw148_0 15 rfl)
theorem dX9_wouldBe_16 : decode cX9_wouldBe 16 = .ok (.invokevirtual 209, 3) := dop_182 (dn_w dw148_1 0 rfl) rfl
theorem dX9_wouldBe_19 : decode cX9_wouldBe 19 = .ok (.aload_n 0, 1) := dop_42 (dn_w dw148_1 3 rfl)
theorem dX9_wouldBe_20 : decode cX9_wouldBe 20 = .ok (.getfield 13, 3) := dop_180 (dn_w dw148_1 4 rfl) rfl
theorem dX9_wouldBe_23 : decode cX9_wouldBe 23 = .ok (.aload_n 0, 1) := dop_42 (dn_w dw148_1 7 rfl)
theorem dX9_wouldBe_24 : decode cX9_wouldBe 24 = .ok (.getfield 222, 3) := dop_180 (dn_w dw148_1 8 rfl) rfl
theorem dX9_wouldBe_27 : decode cX9_wouldBe 27 = .ok (.iaload, 1) := dop_46 (dn_w dw148_1 11 rfl)
theorem dX9_wouldBe_28 : decode cX9_wouldBe 28 = .ok (.aload_n 0, 1) := dop_42 (dn_w dw148_1 12 rfl)
theorem dX9_wouldBe_29 : decode cX9_wouldBe 29 = .ok (.getfield 13, 3) := dop_180 (dn_w dw148_1 13 rfl) rfl
theorem dX9_wouldBe_32 : decode cX9_wouldBe 32 = .ok (.aload_n 0, 1) := dop_42 (dn_w dw148_2 0 rfl)
theorem dX9_wouldBe_33 : decode cX9_wouldBe 33 = .ok (.getfield 222, 3) := dop_180 (dn_w dw148_2 1 rfl) rfl
theorem dX9_wouldBe_36 : decode cX9_wouldBe 36 = .ok (.iconst 1, 1) := dop_4 (dn_w dw148_2 4 rfl)
theorem dX9_wouldBe_37 : decode cX9_wouldBe 37 = .ok (.iadd, 1) := dop_96 (dn_w dw148_2 5 rfl)
theorem dX9_wouldBe_38 : decode cX9_wouldBe 38 = .ok (.iload_n 1, 1) := dop_27 (dn_w dw148_2 6 rfl)
theorem dX9_wouldBe_39 : decode cX9_wouldBe 39 = .ok (.iadd, 1) := dop_96 (dn_w dw148_2 7 rfl)
theorem dX9_wouldBe_40 : decode cX9_wouldBe 40 = .ok (.iaload, 1) := dop_46 (dn_w dw148_2 8 rfl)
theorem dX9_wouldBe_41 : decode cX9_wouldBe 41 = .ok (.ifCond .le 7, 3) := dop_158 (dn_w dw148_2 9 rfl) rfl
theorem dX9_wouldBe_44 : decode cX9_wouldBe 44 = .ok (.iconst 1, 1) := dop_4 (dn_w dw148_2 12 rfl)
theorem dX9_wouldBe_45 : decode cX9_wouldBe 45 = .ok (.goto 4, 3) := dop_167 (dn_w dw148_2 13 rfl) rfl
theorem dX9_wouldBe_48 : decode cX9_wouldBe 48 = .ok (.iconst 0, 1) := dop_3 (dn_w dw148_3 0 rfl)
theorem dX9_wouldBe_49 : decode cX9_wouldBe 49 = .ok (.aload_n 0, 1) := dop_42 (dn_w dw148_3 1 rfl)
theorem dX9_wouldBe_50 : decode cX9_wouldBe 50 = .ok (.getfield 13, 3) := dop_180 (dn_w dw148_3 2 rfl) rfl
theorem dX9_wouldBe_53 : decode cX9_wouldBe 53 = .ok (.aload_n 0, 1) := dop_42 (dn_w dw148_3 5 rfl)
theorem dX9_wouldBe_54 : decode cX9_wouldBe 54 = .ok (.getfield 222, 3) := dop_180 (dn_w dw148_3 6 rfl) rfl
theorem dX9_wouldBe_57 : decode cX9_wouldBe 57 = .ok (.bipush 9, 2) := dop_16 (dn_w dw148_3 9 rfl) rfl
theorem dX9_wouldBe_59 : decode cX9_wouldBe 59 = .ok (.iadd, 1) := dop_96 (dn_w dw148_3 11 rfl)
theorem dX9_wouldBe_60 : decode cX9_wouldBe 60 = .ok (.iload_n 1, 1) := dop_27 (dn_w dw148_3 12 rfl)
theorem dX9_wouldBe_61 : decode cX9_wouldBe 61 = .ok (.iadd, 1) := dop_96 (dn_w dw148_3 13 rfl)
theorem dX9_wouldBe_62 : decode cX9_wouldBe 62 = .ok (.iaload, 1) := dop_46 (dn_w dw148_3 14 rfl)
theorem dX9_wouldBe_63 : decode cX9_wouldBe 63 = .ok (.ifCond .le 7, 3) := dop_158 (dn_w dw148_3 15 rfl) rfl
theorem dX9_wouldBe_66 : decode cX9_wouldBe 66 = .ok (.iconst 1, 1) := dop_4 (dn_w dw148_4 2 rfl)
theorem dX9_wouldBe_67 : decode cX9_wouldBe 67 = .ok (.goto 4, 3) := dop_167 (dn_w dw148_4 3 rfl) rfl
theorem dX9_wouldBe_70 : decode cX9_wouldBe 70 = .ok (.iconst 0, 1) := dop_3 (dn_w dw148_4 6 rfl)
theorem dX9_wouldBe_71 : decode cX9_wouldBe 71 = .ok (.aload_n 0, 1) := dop_42 (dn_w dw148_4 7 rfl)
theorem dX9_wouldBe_72 : decode cX9_wouldBe 72 = .ok (.getfield 13, 3) := dop_180 (dn_w dw148_4 8 rfl) rfl
theorem dX9_wouldBe_75 : decode cX9_wouldBe 75 = .ok (.aload_n 0, 1) := dop_42 (dn_w dw148_4 11 rfl)
theorem dX9_wouldBe_76 : decode cX9_wouldBe 76 = .ok (.getfield 222, 3) := dop_180 (dn_w dw148_4 12 rfl) rfl
theorem dX9_wouldBe_79 : decode cX9_wouldBe 79 = .ok (.bipush 17, 2) := dop_16 (dn_w dw148_4 15 rfl) rfl
theorem dX9_wouldBe_81 : decode cX9_wouldBe 81 = .ok (.iadd, 1) := dop_96 (dn_w dw148_5 1 rfl)
theorem dX9_wouldBe_82 : decode cX9_wouldBe 82 = .ok (.iload_n 1, 1) := dop_27 (dn_w dw148_5 2 rfl)
theorem dX9_wouldBe_83 : decode cX9_wouldBe 83 = .ok (.iadd, 1) := dop_96 (dn_w dw148_5 3 rfl)
theorem dX9_wouldBe_84 : decode cX9_wouldBe 84 = .ok (.iaload, 1) := dop_46 (dn_w dw148_5 4 rfl)
theorem dX9_wouldBe_85 : decode cX9_wouldBe 85 = .ok (.invokevirtual 225, 3) := dop_182 (dn_w dw148_5 5 rfl) rfl
theorem dX9_wouldBe_88 : decode cX9_wouldBe 88 = .ok (.ireturn, 1) := dop_172 (dn_w dw148_5 8 rfl)
noncomputable def dt149_2 : List Nat := 0 :: 7 :: 4 :: 167 :: 0 :: 4 :: 3 :: 172 :: []
noncomputable def dt149_1 : List Nat := 16 :: 40 :: 160 :: 0 :: 8 :: 16 :: 252 :: 167 :: 0 :: 16 :: 42 :: 27 :: 182 :: 0 :: 229 :: 153 :: dt149_2
noncomputable def dt149_0 : List Nat := 42 :: 27 :: 182 :: 0 :: 206 :: 154 :: 0 :: 5 :: 2 :: 172 :: 42 :: 180 :: 0 :: 13 :: 3 :: 46 :: dt149_1
theorem dw149_0 : dn cX9_would 0 = dt149_0 := by decide +kernel
theorem dw149_1 : dn cX9_would 16 = dt149_1 := dn_w dw149_0 16 rfl
theorem dw149_2 : dn cX9_would 32 = dt149_2 := dn_w dw149_1 16 rfl
theorem dX9_would_0 : decode cX9_would 0 = .ok (.aload_n 0, 1) := dop_42 (dn_w dw149_0 0 rfl)
theorem dX9_would_1 : decode cX9_would 1 = .ok (.iload_n 1, 1) := dop_27 (dn_w dw149_0 1 rfl)
theorem dX9_would_2 : decode cX9_would 2 = .ok (.invokevirtual 206, 3) := dop_182 (dn_w dw149_0 2 rfl) rfl
theorem dX9_would_5 : decode cX9_would 5 = .ok (.ifCond .ne 5, 3) := dop_154 (dn_w dw149_0 5 rfl) rfl
theorem dX9_would_8 : decode cX9_would 8 = .ok (.iconst (-1), 1) := dop_2 (dn_w dw149_0 8 rfl)
theorem dX9_would_9 : decode cX9_would 9 = .ok (.ireturn, 1) := dop_172 (dn_w dw149_0 9 rfl)
theorem dX9_would_10 : decode cX9_would 10 = .ok (.aload_n 0, 1) := dop_42 (dn_w dw149_0 10 rfl)
theorem dX9_would_11 : decode cX9_would 11 = .ok (.getfield 13, 3) := dop_180 (dn_w dw149_0 11 rfl) rfl
theorem dX9_would_14 : decode cX9_would 14 = .ok (.iconst 0, 1) := dop_3 (dn_w dw149_0 14 rfl)
theorem dX9_would_15 : decode cX9_would 15 = .ok (.iaload, 1) := dop_46 (dn_w dw149_0 15 rfl)
theorem dX9_would_16 : decode cX9_would 16 = .ok (.bipush 40, 2) := dop_16 (dn_w dw149_1 0 rfl) rfl
theorem dX9_would_18 : decode cX9_would 18 = .ok (.if_icmp .ne 8, 3) := dop_160 (dn_w dw149_1 2 rfl) rfl
theorem dX9_would_21 : decode cX9_would 21 = .ok (.bipush (-4), 2) := dop_16 (dn_w dw149_1 5 rfl) rfl
theorem dX9_would_23 : decode cX9_would 23 = .ok (.goto 16, 3) := dop_167 (dn_w dw149_1 7 rfl) rfl
theorem dX9_would_26 : decode cX9_would 26 = .ok (.aload_n 0, 1) := dop_42 (dn_w dw149_1 10 rfl)
theorem dX9_would_27 : decode cX9_would 27 = .ok (.iload_n 1, 1) := dop_27 (dn_w dw149_1 11 rfl)
theorem dX9_would_28 : decode cX9_would 28 = .ok (.invokevirtual 229, 3) := dop_182 (dn_w dw149_1 12 rfl) rfl
theorem dX9_would_31 : decode cX9_would 31 = .ok (.ifCond .eq 7, 3) := dop_153 (dn_w dw149_1 15 rfl) rfl
theorem dX9_would_34 : decode cX9_would 34 = .ok (.iconst 1, 1) := dop_4 (dn_w dw149_2 2 rfl)
theorem dX9_would_35 : decode cX9_would 35 = .ok (.goto 4, 3) := dop_167 (dn_w dw149_2 3 rfl) rfl
theorem dX9_would_38 : decode cX9_would 38 = .ok (.iconst 0, 1) := dop_3 (dn_w dw149_2 6 rfl)
theorem dX9_would_39 : decode cX9_would 39 = .ok (.ireturn, 1) := dop_172 (dn_w dw149_2 7 rfl)
noncomputable def dt150_5 : List Nat := 0 :: 7 :: 4 :: 167 :: 0 :: 4 :: 3 :: 172 :: []
noncomputable def dt150_4 : List Nat := 255 :: 201 :: 29 :: 42 :: 180 :: 0 :: 25 :: 5 :: 46 :: 162 :: 0 :: 9 :: 21 :: 4 :: 7 :: 161 :: dt150_5
noncomputable def dt150_3 : List Nat := 0 :: 7 :: 4 :: 167 :: 0 :: 4 :: 3 :: 96 :: 62 :: 132 :: 4 :: 1 :: 132 :: 5 :: 1 :: 167 :: dt150_4
noncomputable def dt150_2 : List Nat := 30 :: 29 :: 42 :: 21 :: 5 :: 5 :: 182 :: 0 :: 209 :: 42 :: 27 :: 5 :: 182 :: 0 :: 209 :: 160 :: dt150_3
noncomputable def dt150_1 : List Nat := 52 :: 21 :: 5 :: 27 :: 159 :: 0 :: 40 :: 28 :: 21 :: 5 :: 122 :: 4 :: 126 :: 4 :: 160 :: 0 :: dt150_2
noncomputable def dt150_0 : List Nat := 3 :: 62 :: 3 :: 54 :: 4 :: 3 :: 54 :: 5 :: 21 :: 5 :: 42 :: 180 :: 0 :: 91 :: 162 :: 0 :: dt150_1
theorem dw150_0 : dn cX9_catches 0 = dt150_0 := by decide +kernel
theorem dw150_1 : dn cX9_catches 16 = dt150_1 := dn_w dw150_0 16 rfl
theorem dw150_2 : dn cX9_catches 32 = dt150_2 := dn_w dw150_1 16 rfl
theorem dw150_3 : dn cX9_catches 48 = dt150_3 := dn_w dw150_2 16 rfl
theorem dw150_4 : dn cX9_catches 64 = dt150_4 := dn_w dw150_3 16 rfl
theorem dw150_5 : dn cX9_catches 80 = dt150_5 := dn_w dw150_4 16 rfl
theorem dX9_catches_0 : decode cX9_catches 0 = .ok (.iconst 0, 1) := dop_3 (dn_w dw150_0 0 rfl)
theorem dX9_catches_1 : decode cX9_catches 1 = .ok (.istore_n 3, 1) := dop_62 (dn_w dw150_0 1 rfl)
theorem dX9_catches_2 : decode cX9_catches 2 = .ok (.iconst 0, 1) := dop_3 (dn_w dw150_0 2 rfl)
theorem dX9_catches_3 : decode cX9_catches 3 = .ok (.istore 4, 2) := dop_54 (dn_w dw150_0 3 rfl)
theorem dX9_catches_5 : decode cX9_catches 5 = .ok (.iconst 0, 1) := dop_3 (dn_w dw150_0 5 rfl)
theorem dX9_catches_6 : decode cX9_catches 6 = .ok (.istore 5, 2) := dop_54 (dn_w dw150_0 6 rfl)
theorem dX9_catches_8 : decode cX9_catches 8 = .ok (.iload 5, 2) := dop_21 (dn_w dw150_0 8 rfl)
theorem dX9_catches_10 : decode cX9_catches 10 = .ok (.aload_n 0, 1) := dop_42 (dn_w dw150_0 10 rfl)
theorem dX9_catches_11 : decode cX9_catches 11 = .ok (.getfield 91, 3) := dop_180 (dn_w dw150_0 11 rfl) rfl
theorem dX9_catches_14 : decode cX9_catches 14 = .ok (.if_icmp .ge 52, 3) := dop_162 (dn_w dw150_0 14 rfl) rfl
theorem dX9_catches_17 : decode cX9_catches 17 = .ok (.iload 5, 2) := dop_21 (dn_w dw150_1 1 rfl)
theorem dX9_catches_19 : decode cX9_catches 19 = .ok (.iload_n 1, 1) := dop_27 (dn_w dw150_1 3 rfl)
theorem dX9_catches_20 : decode cX9_catches 20 = .ok (.if_icmp .eq 40, 3) := dop_159 (dn_w dw150_1 4 rfl) rfl
theorem dX9_catches_23 : decode cX9_catches 23 = .ok (.iload_n 2, 1) := dop_28 (dn_w dw150_1 7 rfl)
theorem dX9_catches_24 : decode cX9_catches 24 = .ok (.iload 5, 2) := dop_21 (dn_w dw150_1 8 rfl)
theorem dX9_catches_26 : decode cX9_catches 26 = .ok (.ishr, 1) := dop_122 (dn_w dw150_1 10 rfl)
theorem dX9_catches_27 : decode cX9_catches 27 = .ok (.iconst 1, 1) := dop_4 (dn_w dw150_1 11 rfl)
theorem dX9_catches_28 : decode cX9_catches 28 = .ok (.iand, 1) := dop_126 (dn_w dw150_1 12 rfl)
theorem dX9_catches_29 : decode cX9_catches 29 = .ok (.iconst 1, 1) := dop_4 (dn_w dw150_1 13 rfl)
theorem dX9_catches_30 : decode cX9_catches 30 = .ok (.if_icmp .ne 30, 3) := dop_160 (dn_w dw150_1 14 rfl) rfl
theorem dX9_catches_33 : decode cX9_catches 33 = .ok (.iload_n 3, 1) := dop_29 (dn_w dw150_2 1 rfl)
theorem dX9_catches_34 : decode cX9_catches 34 = .ok (.aload_n 0, 1) := dop_42 (dn_w dw150_2 2 rfl)
theorem dX9_catches_35 : decode cX9_catches 35 = .ok (.iload 5, 2) := dop_21 (dn_w dw150_2 3 rfl)
theorem dX9_catches_37 : decode cX9_catches 37 = .ok (.iconst 2, 1) := dop_5 (dn_w dw150_2 5 rfl)
theorem dX9_catches_38 : decode cX9_catches 38 = .ok (.invokevirtual 209, 3) := dop_182 (dn_w dw150_2 6 rfl) rfl
theorem dX9_catches_41 : decode cX9_catches 41 = .ok (.aload_n 0, 1) := dop_42 (dn_w dw150_2 9 rfl)
theorem dX9_catches_42 : decode cX9_catches 42 = .ok (.iload_n 1, 1) := dop_27 (dn_w dw150_2 10 rfl)
theorem dX9_catches_43 : decode cX9_catches 43 = .ok (.iconst 2, 1) := dop_5 (dn_w dw150_2 11 rfl)
theorem dX9_catches_44 : decode cX9_catches 44 = .ok (.invokevirtual 209, 3) := dop_182 (dn_w dw150_2 12 rfl) rfl
theorem dX9_catches_47 : decode cX9_catches 47 = .ok (.if_icmp .ne 7, 3) := dop_160 (dn_w dw150_2 15 rfl) rfl
theorem dX9_catches_50 : decode cX9_catches 50 = .ok (.iconst 1, 1) := dop_4 (dn_w dw150_3 2 rfl)
theorem dX9_catches_51 : decode cX9_catches 51 = .ok (.goto 4, 3) := dop_167 (dn_w dw150_3 3 rfl) rfl
theorem dX9_catches_54 : decode cX9_catches 54 = .ok (.iconst 0, 1) := dop_3 (dn_w dw150_3 6 rfl)
theorem dX9_catches_55 : decode cX9_catches 55 = .ok (.iadd, 1) := dop_96 (dn_w dw150_3 7 rfl)
theorem dX9_catches_56 : decode cX9_catches 56 = .ok (.istore_n 3, 1) := dop_62 (dn_w dw150_3 8 rfl)
theorem dX9_catches_57 : decode cX9_catches 57 = .ok (.iinc 4 1, 3) := dop_132 (dn_w dw150_3 9 rfl) rfl
theorem dX9_catches_60 : decode cX9_catches 60 = .ok (.iinc 5 1, 3) := dop_132 (dn_w dw150_3 12 rfl) rfl
theorem dX9_catches_63 : decode cX9_catches 63 = .ok (.goto (-55), 3) := dop_167 (dn_w dw150_3 15 rfl) rfl
theorem dX9_catches_66 : decode cX9_catches 66 = .ok (.iload_n 3, 1) := dop_29 (dn_w dw150_4 2 rfl)
theorem dX9_catches_67 : decode cX9_catches 67 = .ok (.aload_n 0, 1) := dop_42 (dn_w dw150_4 3 rfl)
theorem dX9_catches_68 : decode cX9_catches 68 = .ok (.getfield 25, 3) := dop_180 (dn_w dw150_4 4 rfl) rfl
theorem dX9_catches_71 : decode cX9_catches 71 = .ok (.iconst 2, 1) := dop_5 (dn_w dw150_4 7 rfl)
theorem dX9_catches_72 : decode cX9_catches 72 = .ok (.iaload, 1) := dop_46 (dn_w dw150_4 8 rfl)
theorem dX9_catches_73 : decode cX9_catches 73 = .ok (.if_icmp .ge 9, 3) := dop_162 (dn_w dw150_4 9 rfl) rfl
theorem dX9_catches_76 : decode cX9_catches 76 = .ok (.iload 4, 2) := dop_21 (dn_w dw150_4 12 rfl)
theorem dX9_catches_78 : decode cX9_catches 78 = .ok (.iconst 4, 1) := dop_7 (dn_w dw150_4 14 rfl)
theorem dX9_catches_79 : decode cX9_catches 79 = .ok (.if_icmp .lt 7, 3) := dop_161 (dn_w dw150_4 15 rfl) rfl
theorem dX9_catches_82 : decode cX9_catches 82 = .ok (.iconst 1, 1) := dop_4 (dn_w dw150_5 2 rfl)
theorem dX9_catches_83 : decode cX9_catches 83 = .ok (.goto 4, 3) := dop_167 (dn_w dw150_5 3 rfl) rfl
theorem dX9_catches_86 : decode cX9_catches 86 = .ok (.iconst 0, 1) := dop_3 (dn_w dw150_5 6 rfl)
theorem dX9_catches_87 : decode cX9_catches 87 = .ok (.ireturn, 1) := dop_172 (dn_w dw150_5 7 rfl)
noncomputable def dt151_2 : List Nat := 167 :: 0 :: 4 :: 3 :: 128 :: 60 :: 132 :: 2 :: 1 :: 167 :: 255 :: 219 :: 27 :: 172 :: []
noncomputable def dt151_1 : List Nat := 13 :: 42 :: 180 :: 0 :: 222 :: 4 :: 96 :: 28 :: 96 :: 46 :: 158 :: 0 :: 9 :: 4 :: 28 :: 120 :: dt151_2
noncomputable def dt151_0 : List Nat := 3 :: 60 :: 3 :: 61 :: 28 :: 42 :: 180 :: 0 :: 91 :: 162 :: 0 :: 35 :: 27 :: 42 :: 180 :: 0 :: dt151_1
theorem dw151_0 : dn cX9_sickSet 0 = dt151_0 := by decide +kernel
theorem dw151_1 : dn cX9_sickSet 16 = dt151_1 := dn_w dw151_0 16 rfl
theorem dw151_2 : dn cX9_sickSet 32 = dt151_2 := dn_w dw151_1 16 rfl
theorem dX9_sickSet_0 : decode cX9_sickSet 0 = .ok (.iconst 0, 1) := dop_3 (dn_w dw151_0 0 rfl)
theorem dX9_sickSet_1 : decode cX9_sickSet 1 = .ok (.istore_n 1, 1) := dop_60 (dn_w dw151_0 1 rfl)
theorem dX9_sickSet_2 : decode cX9_sickSet 2 = .ok (.iconst 0, 1) := dop_3 (dn_w dw151_0 2 rfl)
theorem dX9_sickSet_3 : decode cX9_sickSet 3 = .ok (.istore_n 2, 1) := dop_61 (dn_w dw151_0 3 rfl)
theorem dX9_sickSet_4 : decode cX9_sickSet 4 = .ok (.iload_n 2, 1) := dop_28 (dn_w dw151_0 4 rfl)
theorem dX9_sickSet_5 : decode cX9_sickSet 5 = .ok (.aload_n 0, 1) := dop_42 (dn_w dw151_0 5 rfl)
theorem dX9_sickSet_6 : decode cX9_sickSet 6 = .ok (.getfield 91, 3) := dop_180 (dn_w dw151_0 6 rfl) rfl
theorem dX9_sickSet_9 : decode cX9_sickSet 9 = .ok (.if_icmp .ge 35, 3) := dop_162 (dn_w dw151_0 9 rfl) rfl
theorem dX9_sickSet_12 : decode cX9_sickSet 12 = .ok (.iload_n 1, 1) := dop_27 (dn_w dw151_0 12 rfl)
theorem dX9_sickSet_13 : decode cX9_sickSet 13 = .ok (.aload_n 0, 1) := dop_42 (dn_w dw151_0 13 rfl)
theorem dX9_sickSet_14 : decode cX9_sickSet 14 = .ok (.getfield 13, 3) := dop_180 (dn_w dw151_0 14 rfl) rfl
theorem dX9_sickSet_17 : decode cX9_sickSet 17 = .ok (.aload_n 0, 1) := dop_42 (dn_w dw151_1 1 rfl)
theorem dX9_sickSet_18 : decode cX9_sickSet 18 = .ok (.getfield 222, 3) := dop_180 (dn_w dw151_1 2 rfl) rfl
theorem dX9_sickSet_21 : decode cX9_sickSet 21 = .ok (.iconst 1, 1) := dop_4 (dn_w dw151_1 5 rfl)
theorem dX9_sickSet_22 : decode cX9_sickSet 22 = .ok (.iadd, 1) := dop_96 (dn_w dw151_1 6 rfl)
theorem dX9_sickSet_23 : decode cX9_sickSet 23 = .ok (.iload_n 2, 1) := dop_28 (dn_w dw151_1 7 rfl)
theorem dX9_sickSet_24 : decode cX9_sickSet 24 = .ok (.iadd, 1) := dop_96 (dn_w dw151_1 8 rfl)
theorem dX9_sickSet_25 : decode cX9_sickSet 25 = .ok (.iaload, 1) := dop_46 (dn_w dw151_1 9 rfl)
theorem dX9_sickSet_26 : decode cX9_sickSet 26 = .ok (.ifCond .le 9, 3) := dop_158 (dn_w dw151_1 10 rfl) rfl
theorem dX9_sickSet_29 : decode cX9_sickSet 29 = .ok (.iconst 1, 1) := dop_4 (dn_w dw151_1 13 rfl)
theorem dX9_sickSet_30 : decode cX9_sickSet 30 = .ok (.iload_n 2, 1) := dop_28 (dn_w dw151_1 14 rfl)
theorem dX9_sickSet_31 : decode cX9_sickSet 31 = .ok (.ishl, 1) := dop_120 (dn_w dw151_1 15 rfl)
theorem dX9_sickSet_32 : decode cX9_sickSet 32 = .ok (.goto 4, 3) := dop_167 (dn_w dw151_2 0 rfl) rfl
theorem dX9_sickSet_35 : decode cX9_sickSet 35 = .ok (.iconst 0, 1) := dop_3 (dn_w dw151_2 3 rfl)
theorem dX9_sickSet_36 : decode cX9_sickSet 36 = .ok (.ior, 1) := dop_128 (dn_w dw151_2 4 rfl)
theorem dX9_sickSet_37 : decode cX9_sickSet 37 = .ok (.istore_n 1, 1) := dop_60 (dn_w dw151_2 5 rfl)
theorem dX9_sickSet_38 : decode cX9_sickSet 38 = .ok (.iinc 2 1, 3) := dop_132 (dn_w dw151_2 6 rfl) rfl
theorem dX9_sickSet_41 : decode cX9_sickSet 41 = .ok (.goto (-37), 3) := dop_167 (dn_w dw151_2 9 rfl) rfl
theorem dX9_sickSet_44 : decode cX9_sickSet 44 = .ok (.iload_n 1, 1) := dop_27 (dn_w dw151_2 12 rfl)
theorem dX9_sickSet_45 : decode cX9_sickSet 45 = .ok (.ireturn, 1) := dop_172 (dn_w dw151_2 13 rfl)
noncomputable def dt152_16 : List Nat := 4 :: 96 :: 79 :: 27 :: 172 :: []
noncomputable def dt152_15 : List Nat := 132 :: 3 :: 1 :: 167 :: 255 :: 191 :: 42 :: 180 :: 0 :: 13 :: 42 :: 180 :: 0 :: 222 :: 92 :: 46 :: dt152_16
noncomputable def dt152_14 : List Nat := 13 :: 42 :: 180 :: 0 :: 222 :: 4 :: 96 :: 29 :: 96 :: 42 :: 180 :: 0 :: 25 :: 6 :: 46 :: 79 :: dt152_15
noncomputable def dt152_13 : List Nat := 46 :: 154 :: 0 :: 31 :: 42 :: 29 :: 28 :: 182 :: 0 :: 235 :: 153 :: 0 :: 22 :: 42 :: 180 :: 0 :: dt152_14
noncomputable def dt152_12 : List Nat := 8 :: 160 :: 0 :: 47 :: 42 :: 180 :: 0 :: 13 :: 42 :: 180 :: 0 :: 222 :: 4 :: 96 :: 29 :: 96 :: dt152_13
noncomputable def dt152_11 : List Nat := 3 :: 62 :: 29 :: 42 :: 180 :: 0 :: 91 :: 162 :: 0 :: 63 :: 42 :: 29 :: 3 :: 182 :: 0 :: 209 :: dt152_12
noncomputable def dt152_10 : List Nat := 158 :: 0 :: 7 :: 4 :: 167 :: 0 :: 4 :: 3 :: 100 :: 79 :: 132 :: 3 :: 1 :: 167 :: 255 :: 126 :: dt152_11
noncomputable def dt152_9 : List Nat := 92 :: 46 :: 42 :: 180 :: 0 :: 13 :: 42 :: 180 :: 0 :: 222 :: 16 :: 9 :: 96 :: 29 :: 96 :: 46 :: dt152_10
noncomputable def dt152_8 : List Nat := 3 :: 100 :: 79 :: 42 :: 180 :: 0 :: 13 :: 42 :: 180 :: 0 :: 222 :: 16 :: 9 :: 96 :: 29 :: 96 :: dt152_9
noncomputable def dt152_7 : List Nat := 42 :: 180 :: 0 :: 222 :: 4 :: 96 :: 29 :: 96 :: 46 :: 158 :: 0 :: 7 :: 4 :: 167 :: 0 :: 4 :: dt152_8
noncomputable def dt152_6 : List Nat := 0 :: 13 :: 42 :: 180 :: 0 :: 222 :: 4 :: 96 :: 29 :: 96 :: 92 :: 46 :: 42 :: 180 :: 0 :: 13 :: dt152_7
noncomputable def dt152_5 : List Nat := 13 :: 42 :: 180 :: 0 :: 222 :: 16 :: 17 :: 96 :: 29 :: 96 :: 46 :: 4 :: 96 :: 79 :: 42 :: 180 :: dt152_6
noncomputable def dt152_4 : List Nat := 27 :: 29 :: 122 :: 4 :: 126 :: 4 :: 160 :: 0 :: 7 :: 3 :: 167 :: 0 :: 19 :: 42 :: 180 :: 0 :: dt152_5
noncomputable def dt152_3 : List Nat := 162 :: 0 :: 128 :: 42 :: 180 :: 0 :: 13 :: 42 :: 180 :: 0 :: 222 :: 16 :: 17 :: 96 :: 29 :: 96 :: dt152_4
noncomputable def dt152_2 : List Nat := 120 :: 128 :: 60 :: 132 :: 3 :: 1 :: 167 :: 255 :: 227 :: 3 :: 62 :: 29 :: 42 :: 180 :: 0 :: 91 :: dt152_3
noncomputable def dt152_1 : List Nat := 27 :: 27 :: 42 :: 29 :: 182 :: 0 :: 229 :: 153 :: 0 :: 7 :: 3 :: 167 :: 0 :: 6 :: 4 :: 29 :: dt152_2
noncomputable def dt152_0 : List Nat := 3 :: 60 :: 42 :: 182 :: 0 :: 232 :: 61 :: 3 :: 62 :: 29 :: 42 :: 180 :: 0 :: 91 :: 162 :: 0 :: dt152_1
theorem dw152_0 : dn cX9_dayGoes 0 = dt152_0 := by decide +kernel
theorem dw152_1 : dn cX9_dayGoes 16 = dt152_1 := dn_w dw152_0 16 rfl
theorem dw152_2 : dn cX9_dayGoes 32 = dt152_2 := dn_w dw152_1 16 rfl
theorem dw152_3 : dn cX9_dayGoes 48 = dt152_3 := dn_w dw152_2 16 rfl
theorem dw152_4 : dn cX9_dayGoes 64 = dt152_4 := dn_w dw152_3 16 rfl
theorem dw152_5 : dn cX9_dayGoes 80 = dt152_5 := dn_w dw152_4 16 rfl
theorem dw152_6 : dn cX9_dayGoes 96 = dt152_6 := dn_w dw152_5 16 rfl
theorem dw152_7 : dn cX9_dayGoes 112 = dt152_7 := dn_w dw152_6 16 rfl
theorem dw152_8 : dn cX9_dayGoes 128 = dt152_8 := dn_w dw152_7 16 rfl
theorem dw152_9 : dn cX9_dayGoes 144 = dt152_9 := dn_w dw152_8 16 rfl
theorem dw152_10 : dn cX9_dayGoes 160 = dt152_10 := dn_w dw152_9 16 rfl
theorem dw152_11 : dn cX9_dayGoes 176 = dt152_11 := dn_w dw152_10 16 rfl
theorem dw152_12 : dn cX9_dayGoes 192 = dt152_12 := dn_w dw152_11 16 rfl
theorem dw152_13 : dn cX9_dayGoes 208 = dt152_13 := dn_w dw152_12 16 rfl
theorem dw152_14 : dn cX9_dayGoes 224 = dt152_14 := dn_w dw152_13 16 rfl
theorem dw152_15 : dn cX9_dayGoes 240 = dt152_15 := dn_w dw152_14 16 rfl
theorem dw152_16 : dn cX9_dayGoes 256 = dt152_16 := dn_w dw152_15 16 rfl
theorem dX9_dayGoes_0 : decode cX9_dayGoes 0 = .ok (.iconst 0, 1) := dop_3 (dn_w dw152_0 0 rfl)
theorem dX9_dayGoes_1 : decode cX9_dayGoes 1 = .ok (.istore_n 1, 1) := dop_60 (dn_w dw152_0 1 rfl)
theorem dX9_dayGoes_2 : decode cX9_dayGoes 2 = .ok (.aload_n 0, 1) := dop_42 (dn_w dw152_0 2 rfl)
theorem dX9_dayGoes_3 : decode cX9_dayGoes 3 = .ok (.invokevirtual 232, 3) := dop_182 (dn_w dw152_0 3 rfl) rfl
theorem dX9_dayGoes_6 : decode cX9_dayGoes 6 = .ok (.istore_n 2, 1) := dop_61 (dn_w dw152_0 6 rfl)
theorem dX9_dayGoes_7 : decode cX9_dayGoes 7 = .ok (.iconst 0, 1) := dop_3 (dn_w dw152_0 7 rfl)
theorem dX9_dayGoes_8 : decode cX9_dayGoes 8 = .ok (.istore_n 3, 1) := dop_62 (dn_w dw152_0 8 rfl)
theorem dX9_dayGoes_9 : decode cX9_dayGoes 9 = .ok (.iload_n 3, 1) := dop_29 (dn_w dw152_0 9 rfl)
theorem dX9_dayGoes_10 : decode cX9_dayGoes 10 = .ok (.aload_n 0, 1) := dop_42 (dn_w dw152_0 10 rfl)
theorem dX9_dayGoes_11 : decode cX9_dayGoes 11 = .ok (.getfield 91, 3) := dop_180 (dn_w dw152_0 11 rfl) rfl
theorem dX9_dayGoes_14 : decode cX9_dayGoes 14 = .ok (.if_icmp .ge 27, 3) := dop_162 (dn_w dw152_0 14 rfl) rfl
theorem dX9_dayGoes_17 : decode cX9_dayGoes 17 = .ok (.iload_n 1, 1) := dop_27 (dn_w dw152_1 1 rfl)
theorem dX9_dayGoes_18 : decode cX9_dayGoes 18 = .ok (.aload_n 0, 1) := dop_42 (dn_w dw152_1 2 rfl)
theorem dX9_dayGoes_19 : decode cX9_dayGoes 19 = .ok (.iload_n 3, 1) := dop_29 (dn_w dw152_1 3 rfl)
theorem dX9_dayGoes_20 : decode cX9_dayGoes 20 = .ok (.invokevirtual 229, 3) := dop_182 (dn_w dw152_1 4 rfl) rfl
theorem dX9_dayGoes_23 : decode cX9_dayGoes 23 = .ok (.ifCond .eq 7, 3) := dop_153 (dn_w dw152_1 7 rfl) rfl
theorem dX9_dayGoes_26 : decode cX9_dayGoes 26 = .ok (.iconst 0, 1) := dop_3 (dn_w dw152_1 10 rfl)
theorem dX9_dayGoes_27 : decode cX9_dayGoes 27 = .ok (.goto 6, 3) := dop_167 (dn_w dw152_1 11 rfl) rfl
theorem dX9_dayGoes_30 : decode cX9_dayGoes 30 = .ok (.iconst 1, 1) := dop_4 (dn_w dw152_1 14 rfl)
theorem dX9_dayGoes_31 : decode cX9_dayGoes 31 = .ok (.iload_n 3, 1) := dop_29 (dn_w dw152_1 15 rfl)
theorem dX9_dayGoes_32 : decode cX9_dayGoes 32 = .ok (.ishl, 1) := dop_120 (dn_w dw152_2 0 rfl)
theorem dX9_dayGoes_33 : decode cX9_dayGoes 33 = .ok (.ior, 1) := dop_128 (dn_w dw152_2 1 rfl)
theorem dX9_dayGoes_34 : decode cX9_dayGoes 34 = .ok (.istore_n 1, 1) := dop_60 (dn_w dw152_2 2 rfl)
theorem dX9_dayGoes_35 : decode cX9_dayGoes 35 = .ok (.iinc 3 1, 3) := dop_132 (dn_w dw152_2 3 rfl) rfl
theorem dX9_dayGoes_38 : decode cX9_dayGoes 38 = .ok (.goto (-29), 3) := dop_167 (dn_w dw152_2 6 rfl) rfl
theorem dX9_dayGoes_41 : decode cX9_dayGoes 41 = .ok (.iconst 0, 1) := dop_3 (dn_w dw152_2 9 rfl)
theorem dX9_dayGoes_42 : decode cX9_dayGoes 42 = .ok (.istore_n 3, 1) := dop_62 (dn_w dw152_2 10 rfl)
theorem dX9_dayGoes_43 : decode cX9_dayGoes 43 = .ok (.iload_n 3, 1) := dop_29 (dn_w dw152_2 11 rfl)
theorem dX9_dayGoes_44 : decode cX9_dayGoes 44 = .ok (.aload_n 0, 1) := dop_42 (dn_w dw152_2 12 rfl)
theorem dX9_dayGoes_45 : decode cX9_dayGoes 45 = .ok (.getfield 91, 3) := dop_180 (dn_w dw152_2 13 rfl) rfl
theorem dX9_dayGoes_48 : decode cX9_dayGoes 48 = .ok (.if_icmp .ge 128, 3) := dop_162 (dn_w dw152_3 0 rfl) rfl
theorem dX9_dayGoes_51 : decode cX9_dayGoes 51 = .ok (.aload_n 0, 1) := dop_42 (dn_w dw152_3 3 rfl)
theorem dX9_dayGoes_52 : decode cX9_dayGoes 52 = .ok (.getfield 13, 3) := dop_180 (dn_w dw152_3 4 rfl) rfl
theorem dX9_dayGoes_55 : decode cX9_dayGoes 55 = .ok (.aload_n 0, 1) := dop_42 (dn_w dw152_3 7 rfl)
theorem dX9_dayGoes_56 : decode cX9_dayGoes 56 = .ok (.getfield 222, 3) := dop_180 (dn_w dw152_3 8 rfl) rfl
theorem dX9_dayGoes_59 : decode cX9_dayGoes 59 = .ok (.bipush 17, 2) := dop_16 (dn_w dw152_3 11 rfl) rfl
theorem dX9_dayGoes_61 : decode cX9_dayGoes 61 = .ok (.iadd, 1) := dop_96 (dn_w dw152_3 13 rfl)
theorem dX9_dayGoes_62 : decode cX9_dayGoes 62 = .ok (.iload_n 3, 1) := dop_29 (dn_w dw152_3 14 rfl)
theorem dX9_dayGoes_63 : decode cX9_dayGoes 63 = .ok (.iadd, 1) := dop_96 (dn_w dw152_3 15 rfl)
theorem dX9_dayGoes_64 : decode cX9_dayGoes 64 = .ok (.iload_n 1, 1) := dop_27 (dn_w dw152_4 0 rfl)
theorem dX9_dayGoes_65 : decode cX9_dayGoes 65 = .ok (.iload_n 3, 1) := dop_29 (dn_w dw152_4 1 rfl)
theorem dX9_dayGoes_66 : decode cX9_dayGoes 66 = .ok (.ishr, 1) := dop_122 (dn_w dw152_4 2 rfl)
theorem dX9_dayGoes_67 : decode cX9_dayGoes 67 = .ok (.iconst 1, 1) := dop_4 (dn_w dw152_4 3 rfl)
theorem dX9_dayGoes_68 : decode cX9_dayGoes 68 = .ok (.iand, 1) := dop_126 (dn_w dw152_4 4 rfl)
theorem dX9_dayGoes_69 : decode cX9_dayGoes 69 = .ok (.iconst 1, 1) := dop_4 (dn_w dw152_4 5 rfl)
theorem dX9_dayGoes_70 : decode cX9_dayGoes 70 = .ok (.if_icmp .ne 7, 3) := dop_160 (dn_w dw152_4 6 rfl) rfl
theorem dX9_dayGoes_73 : decode cX9_dayGoes 73 = .ok (.iconst 0, 1) := dop_3 (dn_w dw152_4 9 rfl)
theorem dX9_dayGoes_74 : decode cX9_dayGoes 74 = .ok (.goto 19, 3) := dop_167 (dn_w dw152_4 10 rfl) rfl
theorem dX9_dayGoes_77 : decode cX9_dayGoes 77 = .ok (.aload_n 0, 1) := dop_42 (dn_w dw152_4 13 rfl)
theorem dX9_dayGoes_78 : decode cX9_dayGoes 78 = .ok (.getfield 13, 3) := dop_180 (dn_w dw152_4 14 rfl) rfl
theorem dX9_dayGoes_81 : decode cX9_dayGoes 81 = .ok (.aload_n 0, 1) := dop_42 (dn_w dw152_5 1 rfl)
theorem dX9_dayGoes_82 : decode cX9_dayGoes 82 = .ok (.getfield 222, 3) := dop_180 (dn_w dw152_5 2 rfl) rfl
theorem dX9_dayGoes_85 : decode cX9_dayGoes 85 = .ok (.bipush 17, 2) := dop_16 (dn_w dw152_5 5 rfl) rfl
theorem dX9_dayGoes_87 : decode cX9_dayGoes 87 = .ok (.iadd, 1) := dop_96 (dn_w dw152_5 7 rfl)
theorem dX9_dayGoes_88 : decode cX9_dayGoes 88 = .ok (.iload_n 3, 1) := dop_29 (dn_w dw152_5 8 rfl)
theorem dX9_dayGoes_89 : decode cX9_dayGoes 89 = .ok (.iadd, 1) := dop_96 (dn_w dw152_5 9 rfl)
theorem dX9_dayGoes_90 : decode cX9_dayGoes 90 = .ok (.iaload, 1) := dop_46 (dn_w dw152_5 10 rfl)
theorem dX9_dayGoes_91 : decode cX9_dayGoes 91 = .ok (.iconst 1, 1) := dop_4 (dn_w dw152_5 11 rfl)
theorem dX9_dayGoes_92 : decode cX9_dayGoes 92 = .ok (.iadd, 1) := dop_96 (dn_w dw152_5 12 rfl)
theorem dX9_dayGoes_93 : decode cX9_dayGoes 93 = .ok (.iastore, 1) := dop_79 (dn_w dw152_5 13 rfl)
theorem dX9_dayGoes_94 : decode cX9_dayGoes 94 = .ok (.aload_n 0, 1) := dop_42 (dn_w dw152_5 14 rfl)
theorem dX9_dayGoes_95 : decode cX9_dayGoes 95 = .ok (.getfield 13, 3) := dop_180 (dn_w dw152_5 15 rfl) rfl
theorem dX9_dayGoes_98 : decode cX9_dayGoes 98 = .ok (.aload_n 0, 1) := dop_42 (dn_w dw152_6 2 rfl)
theorem dX9_dayGoes_99 : decode cX9_dayGoes 99 = .ok (.getfield 222, 3) := dop_180 (dn_w dw152_6 3 rfl) rfl
theorem dX9_dayGoes_102 : decode cX9_dayGoes 102 = .ok (.iconst 1, 1) := dop_4 (dn_w dw152_6 6 rfl)
theorem dX9_dayGoes_103 : decode cX9_dayGoes 103 = .ok (.iadd, 1) := dop_96 (dn_w dw152_6 7 rfl)
theorem dX9_dayGoes_104 : decode cX9_dayGoes 104 = .ok (.iload_n 3, 1) := dop_29 (dn_w dw152_6 8 rfl)
theorem dX9_dayGoes_105 : decode cX9_dayGoes 105 = .ok (.iadd, 1) := dop_96 (dn_w dw152_6 9 rfl)
theorem dX9_dayGoes_106 : decode cX9_dayGoes 106 = .ok (.dup2, 1) := dop_92 (dn_w dw152_6 10 rfl)
theorem dX9_dayGoes_107 : decode cX9_dayGoes 107 = .ok (.iaload, 1) := dop_46 (dn_w dw152_6 11 rfl)
theorem dX9_dayGoes_108 : decode cX9_dayGoes 108 = .ok (.aload_n 0, 1) := dop_42 (dn_w dw152_6 12 rfl)
theorem dX9_dayGoes_109 : decode cX9_dayGoes 109 = .ok (.getfield 13, 3) := dop_180 (dn_w dw152_6 13 rfl) rfl
theorem dX9_dayGoes_112 : decode cX9_dayGoes 112 = .ok (.aload_n 0, 1) := dop_42 (dn_w dw152_7 0 rfl)
theorem dX9_dayGoes_113 : decode cX9_dayGoes 113 = .ok (.getfield 222, 3) := dop_180 (dn_w dw152_7 1 rfl) rfl
theorem dX9_dayGoes_116 : decode cX9_dayGoes 116 = .ok (.iconst 1, 1) := dop_4 (dn_w dw152_7 4 rfl)
theorem dX9_dayGoes_117 : decode cX9_dayGoes 117 = .ok (.iadd, 1) := dop_96 (dn_w dw152_7 5 rfl)
theorem dX9_dayGoes_118 : decode cX9_dayGoes 118 = .ok (.iload_n 3, 1) := dop_29 (dn_w dw152_7 6 rfl)
theorem dX9_dayGoes_119 : decode cX9_dayGoes 119 = .ok (.iadd, 1) := dop_96 (dn_w dw152_7 7 rfl)
theorem dX9_dayGoes_120 : decode cX9_dayGoes 120 = .ok (.iaload, 1) := dop_46 (dn_w dw152_7 8 rfl)
theorem dX9_dayGoes_121 : decode cX9_dayGoes 121 = .ok (.ifCond .le 7, 3) := dop_158 (dn_w dw152_7 9 rfl) rfl
theorem dX9_dayGoes_124 : decode cX9_dayGoes 124 = .ok (.iconst 1, 1) := dop_4 (dn_w dw152_7 12 rfl)
theorem dX9_dayGoes_125 : decode cX9_dayGoes 125 = .ok (.goto 4, 3) := dop_167 (dn_w dw152_7 13 rfl) rfl
theorem dX9_dayGoes_128 : decode cX9_dayGoes 128 = .ok (.iconst 0, 1) := dop_3 (dn_w dw152_8 0 rfl)
theorem dX9_dayGoes_129 : decode cX9_dayGoes 129 = .ok (.isub, 1) := dop_100 (dn_w dw152_8 1 rfl)
theorem dX9_dayGoes_130 : decode cX9_dayGoes 130 = .ok (.iastore, 1) := dop_79 (dn_w dw152_8 2 rfl)
theorem dX9_dayGoes_131 : decode cX9_dayGoes 131 = .ok (.aload_n 0, 1) := dop_42 (dn_w dw152_8 3 rfl)
theorem dX9_dayGoes_132 : decode cX9_dayGoes 132 = .ok (.getfield 13, 3) := dop_180 (dn_w dw152_8 4 rfl) rfl
theorem dX9_dayGoes_135 : decode cX9_dayGoes 135 = .ok (.aload_n 0, 1) := dop_42 (dn_w dw152_8 7 rfl)
theorem dX9_dayGoes_136 : decode cX9_dayGoes 136 = .ok (.getfield 222, 3) := dop_180 (dn_w dw152_8 8 rfl) rfl
theorem dX9_dayGoes_139 : decode cX9_dayGoes 139 = .ok (.bipush 9, 2) := dop_16 (dn_w dw152_8 11 rfl) rfl
theorem dX9_dayGoes_141 : decode cX9_dayGoes 141 = .ok (.iadd, 1) := dop_96 (dn_w dw152_8 13 rfl)
theorem dX9_dayGoes_142 : decode cX9_dayGoes 142 = .ok (.iload_n 3, 1) := dop_29 (dn_w dw152_8 14 rfl)
theorem dX9_dayGoes_143 : decode cX9_dayGoes 143 = .ok (.iadd, 1) := dop_96 (dn_w dw152_8 15 rfl)
theorem dX9_dayGoes_144 : decode cX9_dayGoes 144 = .ok (.dup2, 1) := dop_92 (dn_w dw152_9 0 rfl)
theorem dX9_dayGoes_145 : decode cX9_dayGoes 145 = .ok (.iaload, 1) := dop_46 (dn_w dw152_9 1 rfl)
theorem dX9_dayGoes_146 : decode cX9_dayGoes 146 = .ok (.aload_n 0, 1) := dop_42 (dn_w dw152_9 2 rfl)
theorem dX9_dayGoes_147 : decode cX9_dayGoes 147 = .ok (.getfield 13, 3) := dop_180 (dn_w dw152_9 3 rfl) rfl
theorem dX9_dayGoes_150 : decode cX9_dayGoes 150 = .ok (.aload_n 0, 1) := dop_42 (dn_w dw152_9 6 rfl)
theorem dX9_dayGoes_151 : decode cX9_dayGoes 151 = .ok (.getfield 222, 3) := dop_180 (dn_w dw152_9 7 rfl) rfl
theorem dX9_dayGoes_154 : decode cX9_dayGoes 154 = .ok (.bipush 9, 2) := dop_16 (dn_w dw152_9 10 rfl) rfl
theorem dX9_dayGoes_156 : decode cX9_dayGoes 156 = .ok (.iadd, 1) := dop_96 (dn_w dw152_9 12 rfl)
theorem dX9_dayGoes_157 : decode cX9_dayGoes 157 = .ok (.iload_n 3, 1) := dop_29 (dn_w dw152_9 13 rfl)
theorem dX9_dayGoes_158 : decode cX9_dayGoes 158 = .ok (.iadd, 1) := dop_96 (dn_w dw152_9 14 rfl)
theorem dX9_dayGoes_159 : decode cX9_dayGoes 159 = .ok (.iaload, 1) := dop_46 (dn_w dw152_9 15 rfl)
theorem dX9_dayGoes_160 : decode cX9_dayGoes 160 = .ok (.ifCond .le 7, 3) := dop_158 (dn_w dw152_10 0 rfl) rfl
theorem dX9_dayGoes_163 : decode cX9_dayGoes 163 = .ok (.iconst 1, 1) := dop_4 (dn_w dw152_10 3 rfl)
theorem dX9_dayGoes_164 : decode cX9_dayGoes 164 = .ok (.goto 4, 3) := dop_167 (dn_w dw152_10 4 rfl) rfl
theorem dX9_dayGoes_167 : decode cX9_dayGoes 167 = .ok (.iconst 0, 1) := dop_3 (dn_w dw152_10 7 rfl)
theorem dX9_dayGoes_168 : decode cX9_dayGoes 168 = .ok (.isub, 1) := dop_100 (dn_w dw152_10 8 rfl)
theorem dX9_dayGoes_169 : decode cX9_dayGoes 169 = .ok (.iastore, 1) := dop_79 (dn_w dw152_10 9 rfl)
theorem dX9_dayGoes_170 : decode cX9_dayGoes 170 = .ok (.iinc 3 1, 3) := dop_132 (dn_w dw152_10 10 rfl) rfl
theorem dX9_dayGoes_173 : decode cX9_dayGoes 173 = .ok (.goto (-130), 3) := dop_167 (dn_w dw152_10 13 rfl) rfl
theorem dX9_dayGoes_176 : decode cX9_dayGoes 176 = .ok (.iconst 0, 1) := dop_3 (dn_w dw152_11 0 rfl)
theorem dX9_dayGoes_177 : decode cX9_dayGoes 177 = .ok (.istore_n 3, 1) := dop_62 (dn_w dw152_11 1 rfl)
theorem dX9_dayGoes_178 : decode cX9_dayGoes 178 = .ok (.iload_n 3, 1) := dop_29 (dn_w dw152_11 2 rfl)
theorem dX9_dayGoes_179 : decode cX9_dayGoes 179 = .ok (.aload_n 0, 1) := dop_42 (dn_w dw152_11 3 rfl)
theorem dX9_dayGoes_180 : decode cX9_dayGoes 180 = .ok (.getfield 91, 3) := dop_180 (dn_w dw152_11 4 rfl) rfl
theorem dX9_dayGoes_183 : decode cX9_dayGoes 183 = .ok (.if_icmp .ge 63, 3) := dop_162 (dn_w dw152_11 7 rfl) rfl
theorem dX9_dayGoes_186 : decode cX9_dayGoes 186 = .ok (.aload_n 0, 1) := dop_42 (dn_w dw152_11 10 rfl)
theorem dX9_dayGoes_187 : decode cX9_dayGoes 187 = .ok (.iload_n 3, 1) := dop_29 (dn_w dw152_11 11 rfl)
theorem dX9_dayGoes_188 : decode cX9_dayGoes 188 = .ok (.iconst 0, 1) := dop_3 (dn_w dw152_11 12 rfl)
theorem dX9_dayGoes_189 : decode cX9_dayGoes 189 = .ok (.invokevirtual 209, 3) := dop_182 (dn_w dw152_11 13 rfl) rfl
theorem dX9_dayGoes_192 : decode cX9_dayGoes 192 = .ok (.iconst 5, 1) := dop_8 (dn_w dw152_12 0 rfl)
theorem dX9_dayGoes_193 : decode cX9_dayGoes 193 = .ok (.if_icmp .ne 47, 3) := dop_160 (dn_w dw152_12 1 rfl) rfl
theorem dX9_dayGoes_196 : decode cX9_dayGoes 196 = .ok (.aload_n 0, 1) := dop_42 (dn_w dw152_12 4 rfl)
theorem dX9_dayGoes_197 : decode cX9_dayGoes 197 = .ok (.getfield 13, 3) := dop_180 (dn_w dw152_12 5 rfl) rfl
theorem dX9_dayGoes_200 : decode cX9_dayGoes 200 = .ok (.aload_n 0, 1) := dop_42 (dn_w dw152_12 8 rfl)
theorem dX9_dayGoes_201 : decode cX9_dayGoes 201 = .ok (.getfield 222, 3) := dop_180 (dn_w dw152_12 9 rfl) rfl
theorem dX9_dayGoes_204 : decode cX9_dayGoes 204 = .ok (.iconst 1, 1) := dop_4 (dn_w dw152_12 12 rfl)
theorem dX9_dayGoes_205 : decode cX9_dayGoes 205 = .ok (.iadd, 1) := dop_96 (dn_w dw152_12 13 rfl)
theorem dX9_dayGoes_206 : decode cX9_dayGoes 206 = .ok (.iload_n 3, 1) := dop_29 (dn_w dw152_12 14 rfl)
theorem dX9_dayGoes_207 : decode cX9_dayGoes 207 = .ok (.iadd, 1) := dop_96 (dn_w dw152_12 15 rfl)
theorem dX9_dayGoes_208 : decode cX9_dayGoes 208 = .ok (.iaload, 1) := dop_46 (dn_w dw152_13 0 rfl)
theorem dX9_dayGoes_209 : decode cX9_dayGoes 209 = .ok (.ifCond .ne 31, 3) := dop_154 (dn_w dw152_13 1 rfl) rfl
theorem dX9_dayGoes_212 : decode cX9_dayGoes 212 = .ok (.aload_n 0, 1) := dop_42 (dn_w dw152_13 4 rfl)
theorem dX9_dayGoes_213 : decode cX9_dayGoes 213 = .ok (.iload_n 3, 1) := dop_29 (dn_w dw152_13 5 rfl)
theorem dX9_dayGoes_214 : decode cX9_dayGoes 214 = .ok (.iload_n 2, 1) := dop_28 (dn_w dw152_13 6 rfl)
theorem dX9_dayGoes_215 : decode cX9_dayGoes 215 = .ok (.invokevirtual 235, 3) := dop_182 (dn_w dw152_13 7 rfl) rfl
theorem dX9_dayGoes_218 : decode cX9_dayGoes 218 = .ok (.ifCond .eq 22, 3) := dop_153 (dn_w dw152_13 10 rfl) rfl
theorem dX9_dayGoes_221 : decode cX9_dayGoes 221 = .ok (.aload_n 0, 1) := dop_42 (dn_w dw152_13 13 rfl)
theorem dX9_dayGoes_222 : decode cX9_dayGoes 222 = .ok (.getfield 13, 3) := dop_180 (dn_w dw152_13 14 rfl) rfl
theorem dX9_dayGoes_225 : decode cX9_dayGoes 225 = .ok (.aload_n 0, 1) := dop_42 (dn_w dw152_14 1 rfl)
theorem dX9_dayGoes_226 : decode cX9_dayGoes 226 = .ok (.getfield 222, 3) := dop_180 (dn_w dw152_14 2 rfl) rfl
theorem dX9_dayGoes_229 : decode cX9_dayGoes 229 = .ok (.iconst 1, 1) := dop_4 (dn_w dw152_14 5 rfl)
theorem dX9_dayGoes_230 : decode cX9_dayGoes 230 = .ok (.iadd, 1) := dop_96 (dn_w dw152_14 6 rfl)
theorem dX9_dayGoes_231 : decode cX9_dayGoes 231 = .ok (.iload_n 3, 1) := dop_29 (dn_w dw152_14 7 rfl)
theorem dX9_dayGoes_232 : decode cX9_dayGoes 232 = .ok (.iadd, 1) := dop_96 (dn_w dw152_14 8 rfl)
theorem dX9_dayGoes_233 : decode cX9_dayGoes 233 = .ok (.aload_n 0, 1) := dop_42 (dn_w dw152_14 9 rfl)
theorem dX9_dayGoes_234 : decode cX9_dayGoes 234 = .ok (.getfield 25, 3) := dop_180 (dn_w dw152_14 10 rfl) rfl
theorem dX9_dayGoes_237 : decode cX9_dayGoes 237 = .ok (.iconst 3, 1) := dop_6 (dn_w dw152_14 13 rfl)
theorem dX9_dayGoes_238 : decode cX9_dayGoes 238 = .ok (.iaload, 1) := dop_46 (dn_w dw152_14 14 rfl)
theorem dX9_dayGoes_239 : decode cX9_dayGoes 239 = .ok (.iastore, 1) := dop_79 (dn_w dw152_14 15 rfl)
theorem dX9_dayGoes_240 : decode cX9_dayGoes 240 = .ok (.iinc 3 1, 3) := dop_132 (dn_w dw152_15 0 rfl) rfl
theorem dX9_dayGoes_243 : decode cX9_dayGoes 243 = .ok (.goto (-65), 3) := dop_167 (dn_w dw152_15 3 rfl) rfl
theorem dX9_dayGoes_246 : decode cX9_dayGoes 246 = .ok (.aload_n 0, 1) := dop_42 (dn_w dw152_15 6 rfl)
theorem dX9_dayGoes_247 : decode cX9_dayGoes 247 = .ok (.getfield 13, 3) := dop_180 (dn_w dw152_15 7 rfl) rfl
theorem dX9_dayGoes_250 : decode cX9_dayGoes 250 = .ok (.aload_n 0, 1) := dop_42 (dn_w dw152_15 10 rfl)
theorem dX9_dayGoes_251 : decode cX9_dayGoes 251 = .ok (.getfield 222, 3) := dop_180 (dn_w dw152_15 11 rfl) rfl
theorem dX9_dayGoes_254 : decode cX9_dayGoes 254 = .ok (.dup2, 1) := dop_92 (dn_w dw152_15 14 rfl)
theorem dX9_dayGoes_255 : decode cX9_dayGoes 255 = .ok (.iaload, 1) := dop_46 (dn_w dw152_15 15 rfl)
theorem dX9_dayGoes_256 : decode cX9_dayGoes 256 = .ok (.iconst 1, 1) := dop_4 (dn_w dw152_16 0 rfl)
theorem dX9_dayGoes_257 : decode cX9_dayGoes 257 = .ok (.iadd, 1) := dop_96 (dn_w dw152_16 1 rfl)
theorem dX9_dayGoes_258 : decode cX9_dayGoes 258 = .ok (.iastore, 1) := dop_79 (dn_w dw152_16 2 rfl)
theorem dX9_dayGoes_259 : decode cX9_dayGoes 259 = .ok (.iload_n 1, 1) := dop_27 (dn_w dw152_16 3 rfl)
theorem dX9_dayGoes_260 : decode cX9_dayGoes 260 = .ok (.ireturn, 1) := dop_172 (dn_w dw152_16 4 rfl)
noncomputable def dt153_4 : List Nat := 208 :: 42 :: 180 :: 0 :: 13 :: 3 :: 46 :: 172 :: []
noncomputable def dt153_3 : List Nat := 21 :: 4 :: 79 :: 42 :: 180 :: 0 :: 22 :: 29 :: 21 :: 4 :: 79 :: 132 :: 2 :: 1 :: 167 :: 255 :: dt153_4
noncomputable def dt153_2 : List Nat := 0 :: 13 :: 3 :: 46 :: 62 :: 42 :: 182 :: 0 :: 238 :: 54 :: 4 :: 42 :: 180 :: 0 :: 19 :: 29 :: dt153_3
noncomputable def dt153_1 : List Nat := 162 :: 0 :: 49 :: 42 :: 180 :: 0 :: 13 :: 3 :: 46 :: 16 :: 40 :: 162 :: 0 :: 38 :: 42 :: 180 :: dt153_2
noncomputable def dt153_0 : List Nat := 27 :: 3 :: 16 :: 40 :: 184 :: 0 :: 87 :: 154 :: 0 :: 5 :: 2 :: 172 :: 3 :: 61 :: 28 :: 27 :: dt153_1
theorem dw153_0 : dn cX9_days 0 = dt153_0 := by decide +kernel
theorem dw153_1 : dn cX9_days 16 = dt153_1 := dn_w dw153_0 16 rfl
theorem dw153_2 : dn cX9_days 32 = dt153_2 := dn_w dw153_1 16 rfl
theorem dw153_3 : dn cX9_days 48 = dt153_3 := dn_w dw153_2 16 rfl
theorem dw153_4 : dn cX9_days 64 = dt153_4 := dn_w dw153_3 16 rfl
theorem dX9_days_0 : decode cX9_days 0 = .ok (.iload_n 1, 1) := dop_27 (dn_w dw153_0 0 rfl)
theorem dX9_days_1 : decode cX9_days 1 = .ok (.iconst 0, 1) := dop_3 (dn_w dw153_0 1 rfl)
theorem dX9_days_2 : decode cX9_days 2 = .ok (.bipush 40, 2) := dop_16 (dn_w dw153_0 2 rfl) rfl
theorem dX9_days_4 : decode cX9_days 4 = .ok (.invokestatic 87, 3) := dop_184 (dn_w dw153_0 4 rfl) rfl
theorem dX9_days_7 : decode cX9_days 7 = .ok (.ifCond .ne 5, 3) := dop_154 (dn_w dw153_0 7 rfl) rfl
theorem dX9_days_10 : decode cX9_days 10 = .ok (.iconst (-1), 1) := dop_2 (dn_w dw153_0 10 rfl)
theorem dX9_days_11 : decode cX9_days 11 = .ok (.ireturn, 1) := dop_172 (dn_w dw153_0 11 rfl)
theorem dX9_days_12 : decode cX9_days 12 = .ok (.iconst 0, 1) := dop_3 (dn_w dw153_0 12 rfl)
theorem dX9_days_13 : decode cX9_days 13 = .ok (.istore_n 2, 1) := dop_61 (dn_w dw153_0 13 rfl)
theorem dX9_days_14 : decode cX9_days 14 = .ok (.iload_n 2, 1) := dop_28 (dn_w dw153_0 14 rfl)
theorem dX9_days_15 : decode cX9_days 15 = .ok (.iload_n 1, 1) := dop_27 (dn_w dw153_0 15 rfl)
theorem dX9_days_16 : decode cX9_days 16 = .ok (.if_icmp .ge 49, 3) := dop_162 (dn_w dw153_1 0 rfl) rfl
theorem dX9_days_19 : decode cX9_days 19 = .ok (.aload_n 0, 1) := dop_42 (dn_w dw153_1 3 rfl)
theorem dX9_days_20 : decode cX9_days 20 = .ok (.getfield 13, 3) := dop_180 (dn_w dw153_1 4 rfl) rfl
theorem dX9_days_23 : decode cX9_days 23 = .ok (.iconst 0, 1) := dop_3 (dn_w dw153_1 7 rfl)
theorem dX9_days_24 : decode cX9_days 24 = .ok (.iaload, 1) := dop_46 (dn_w dw153_1 8 rfl)
theorem dX9_days_25 : decode cX9_days 25 = .ok (.bipush 40, 2) := dop_16 (dn_w dw153_1 9 rfl) rfl
theorem dX9_days_27 : decode cX9_days 27 = .ok (.if_icmp .ge 38, 3) := dop_162 (dn_w dw153_1 11 rfl) rfl
theorem dX9_days_30 : decode cX9_days 30 = .ok (.aload_n 0, 1) := dop_42 (dn_w dw153_1 14 rfl)
theorem dX9_days_31 : decode cX9_days 31 = .ok (.getfield 13, 3) := dop_180 (dn_w dw153_1 15 rfl) rfl
theorem dX9_days_34 : decode cX9_days 34 = .ok (.iconst 0, 1) := dop_3 (dn_w dw153_2 2 rfl)
theorem dX9_days_35 : decode cX9_days 35 = .ok (.iaload, 1) := dop_46 (dn_w dw153_2 3 rfl)
theorem dX9_days_36 : decode cX9_days 36 = .ok (.istore_n 3, 1) := dop_62 (dn_w dw153_2 4 rfl)
theorem dX9_days_37 : decode cX9_days 37 = .ok (.aload_n 0, 1) := dop_42 (dn_w dw153_2 5 rfl)
theorem dX9_days_38 : decode cX9_days 38 = .ok (.invokevirtual 238, 3) := dop_182 (dn_w dw153_2 6 rfl) rfl
theorem dX9_days_41 : decode cX9_days 41 = .ok (.istore 4, 2) := dop_54 (dn_w dw153_2 9 rfl)
theorem dX9_days_43 : decode cX9_days 43 = .ok (.aload_n 0, 1) := dop_42 (dn_w dw153_2 11 rfl)
theorem dX9_days_44 : decode cX9_days 44 = .ok (.getfield 19, 3) := dop_180 (dn_w dw153_2 12 rfl) rfl
theorem dX9_days_47 : decode cX9_days 47 = .ok (.iload_n 3, 1) := dop_29 (dn_w dw153_2 15 rfl)
theorem dX9_days_48 : decode cX9_days 48 = .ok (.iload 4, 2) := dop_21 (dn_w dw153_3 0 rfl)
theorem dX9_days_50 : decode cX9_days 50 = .ok (.iastore, 1) := dop_79 (dn_w dw153_3 2 rfl)
theorem dX9_days_51 : decode cX9_days 51 = .ok (.aload_n 0, 1) := dop_42 (dn_w dw153_3 3 rfl)
theorem dX9_days_52 : decode cX9_days 52 = .ok (.getfield 22, 3) := dop_180 (dn_w dw153_3 4 rfl) rfl
theorem dX9_days_55 : decode cX9_days 55 = .ok (.iload_n 3, 1) := dop_29 (dn_w dw153_3 7 rfl)
theorem dX9_days_56 : decode cX9_days 56 = .ok (.iload 4, 2) := dop_21 (dn_w dw153_3 8 rfl)
theorem dX9_days_58 : decode cX9_days 58 = .ok (.iastore, 1) := dop_79 (dn_w dw153_3 10 rfl)
theorem dX9_days_59 : decode cX9_days 59 = .ok (.iinc 2 1, 3) := dop_132 (dn_w dw153_3 11 rfl) rfl
theorem dX9_days_62 : decode cX9_days 62 = .ok (.goto (-48), 3) := dop_167 (dn_w dw153_3 14 rfl) rfl
theorem dX9_days_65 : decode cX9_days 65 = .ok (.aload_n 0, 1) := dop_42 (dn_w dw153_4 1 rfl)
theorem dX9_days_66 : decode cX9_days 66 = .ok (.getfield 13, 3) := dop_180 (dn_w dw153_4 2 rfl) rfl
theorem dX9_days_69 : decode cX9_days 69 = .ok (.iconst 0, 1) := dop_3 (dn_w dw153_4 5 rfl)
theorem dX9_days_70 : decode cX9_days 70 = .ok (.iaload, 1) := dop_46 (dn_w dw153_4 6 rfl)
theorem dX9_days_71 : decode cX9_days 71 = .ok (.ireturn, 1) := dop_172 (dn_w dw153_4 7 rfl)
noncomputable def dt154_3 : List Nat := 1 :: 132 :: 3 :: 1 :: 167 :: 255 :: 208 :: 28 :: 172 :: []
noncomputable def dt154_2 : List Nat := 0 :: 222 :: 16 :: 9 :: 96 :: 29 :: 96 :: 42 :: 180 :: 0 :: 25 :: 3 :: 46 :: 79 :: 132 :: 2 :: dt154_3
noncomputable def dt154_1 : List Nat := 182 :: 0 :: 209 :: 122 :: 4 :: 126 :: 4 :: 160 :: 0 :: 26 :: 42 :: 180 :: 0 :: 13 :: 42 :: 180 :: dt154_2
noncomputable def dt154_0 : List Nat := 3 :: 61 :: 3 :: 62 :: 29 :: 42 :: 180 :: 0 :: 91 :: 162 :: 0 :: 46 :: 27 :: 42 :: 29 :: 5 :: dt154_1
theorem dw154_0 : dn cX9_knocks 0 = dt154_0 := by decide +kernel
theorem dw154_1 : dn cX9_knocks 16 = dt154_1 := dn_w dw154_0 16 rfl
theorem dw154_2 : dn cX9_knocks 32 = dt154_2 := dn_w dw154_1 16 rfl
theorem dw154_3 : dn cX9_knocks 48 = dt154_3 := dn_w dw154_2 16 rfl
theorem dX9_knocks_0 : decode cX9_knocks 0 = .ok (.iconst 0, 1) := dop_3 (dn_w dw154_0 0 rfl)
theorem dX9_knocks_1 : decode cX9_knocks 1 = .ok (.istore_n 2, 1) := dop_61 (dn_w dw154_0 1 rfl)
theorem dX9_knocks_2 : decode cX9_knocks 2 = .ok (.iconst 0, 1) := dop_3 (dn_w dw154_0 2 rfl)
theorem dX9_knocks_3 : decode cX9_knocks 3 = .ok (.istore_n 3, 1) := dop_62 (dn_w dw154_0 3 rfl)
theorem dX9_knocks_4 : decode cX9_knocks 4 = .ok (.iload_n 3, 1) := dop_29 (dn_w dw154_0 4 rfl)
theorem dX9_knocks_5 : decode cX9_knocks 5 = .ok (.aload_n 0, 1) := dop_42 (dn_w dw154_0 5 rfl)
theorem dX9_knocks_6 : decode cX9_knocks 6 = .ok (.getfield 91, 3) := dop_180 (dn_w dw154_0 6 rfl) rfl
theorem dX9_knocks_9 : decode cX9_knocks 9 = .ok (.if_icmp .ge 46, 3) := dop_162 (dn_w dw154_0 9 rfl) rfl
theorem dX9_knocks_12 : decode cX9_knocks 12 = .ok (.iload_n 1, 1) := dop_27 (dn_w dw154_0 12 rfl)
theorem dX9_knocks_13 : decode cX9_knocks 13 = .ok (.aload_n 0, 1) := dop_42 (dn_w dw154_0 13 rfl)
theorem dX9_knocks_14 : decode cX9_knocks 14 = .ok (.iload_n 3, 1) := dop_29 (dn_w dw154_0 14 rfl)
theorem dX9_knocks_15 : decode cX9_knocks 15 = .ok (.iconst 2, 1) := dop_5 (dn_w dw154_0 15 rfl)
theorem dX9_knocks_16 : decode cX9_knocks 16 = .ok (.invokevirtual 209, 3) := dop_182 (dn_w dw154_1 0 rfl) rfl
theorem dX9_knocks_19 : decode cX9_knocks 19 = .ok (.ishr, 1) := dop_122 (dn_w dw154_1 3 rfl)
theorem dX9_knocks_20 : decode cX9_knocks 20 = .ok (.iconst 1, 1) := dop_4 (dn_w dw154_1 4 rfl)
theorem dX9_knocks_21 : decode cX9_knocks 21 = .ok (.iand, 1) := dop_126 (dn_w dw154_1 5 rfl)
theorem dX9_knocks_22 : decode cX9_knocks 22 = .ok (.iconst 1, 1) := dop_4 (dn_w dw154_1 6 rfl)
theorem dX9_knocks_23 : decode cX9_knocks 23 = .ok (.if_icmp .ne 26, 3) := dop_160 (dn_w dw154_1 7 rfl) rfl
theorem dX9_knocks_26 : decode cX9_knocks 26 = .ok (.aload_n 0, 1) := dop_42 (dn_w dw154_1 10 rfl)
theorem dX9_knocks_27 : decode cX9_knocks 27 = .ok (.getfield 13, 3) := dop_180 (dn_w dw154_1 11 rfl) rfl
theorem dX9_knocks_30 : decode cX9_knocks 30 = .ok (.aload_n 0, 1) := dop_42 (dn_w dw154_1 14 rfl)
theorem dX9_knocks_31 : decode cX9_knocks 31 = .ok (.getfield 222, 3) := dop_180 (dn_w dw154_1 15 rfl) rfl
theorem dX9_knocks_34 : decode cX9_knocks 34 = .ok (.bipush 9, 2) := dop_16 (dn_w dw154_2 2 rfl) rfl
theorem dX9_knocks_36 : decode cX9_knocks 36 = .ok (.iadd, 1) := dop_96 (dn_w dw154_2 4 rfl)
theorem dX9_knocks_37 : decode cX9_knocks 37 = .ok (.iload_n 3, 1) := dop_29 (dn_w dw154_2 5 rfl)
theorem dX9_knocks_38 : decode cX9_knocks 38 = .ok (.iadd, 1) := dop_96 (dn_w dw154_2 6 rfl)
theorem dX9_knocks_39 : decode cX9_knocks 39 = .ok (.aload_n 0, 1) := dop_42 (dn_w dw154_2 7 rfl)
theorem dX9_knocks_40 : decode cX9_knocks 40 = .ok (.getfield 25, 3) := dop_180 (dn_w dw154_2 8 rfl) rfl
theorem dX9_knocks_43 : decode cX9_knocks 43 = .ok (.iconst 0, 1) := dop_3 (dn_w dw154_2 11 rfl)
theorem dX9_knocks_44 : decode cX9_knocks 44 = .ok (.iaload, 1) := dop_46 (dn_w dw154_2 12 rfl)
theorem dX9_knocks_45 : decode cX9_knocks 45 = .ok (.iastore, 1) := dop_79 (dn_w dw154_2 13 rfl)
theorem dX9_knocks_46 : decode cX9_knocks 46 = .ok (.iinc 2 1, 3) := dop_132 (dn_w dw154_2 14 rfl) rfl
theorem dX9_knocks_49 : decode cX9_knocks 49 = .ok (.iinc 3 1, 3) := dop_132 (dn_w dw154_3 1 rfl) rfl
theorem dX9_knocks_52 : decode cX9_knocks 52 = .ok (.goto (-48), 3) := dop_167 (dn_w dw154_3 4 rfl) rfl
theorem dX9_knocks_55 : decode cX9_knocks 55 = .ok (.iload_n 2, 1) := dop_28 (dn_w dw154_3 7 rfl)
theorem dX9_knocks_56 : decode cX9_knocks 56 = .ok (.ireturn, 1) := dop_172 (dn_w dw154_3 8 rfl)
noncomputable def dt155_1 : List Nat := 167 :: 0 :: 4 :: 2 :: 172 :: []
noncomputable def dt155_0 : List Nat := 27 :: 3 :: 8 :: 184 :: 0 :: 87 :: 153 :: 0 :: 13 :: 42 :: 4 :: 27 :: 120 :: 182 :: 0 :: 241 :: dt155_1
theorem dw155_0 : dn cX9_knock 0 = dt155_0 := by decide +kernel
theorem dw155_1 : dn cX9_knock 16 = dt155_1 := dn_w dw155_0 16 rfl
theorem dX9_knock_0 : decode cX9_knock 0 = .ok (.iload_n 1, 1) := dop_27 (dn_w dw155_0 0 rfl)
theorem dX9_knock_1 : decode cX9_knock 1 = .ok (.iconst 0, 1) := dop_3 (dn_w dw155_0 1 rfl)
theorem dX9_knock_2 : decode cX9_knock 2 = .ok (.iconst 5, 1) := dop_8 (dn_w dw155_0 2 rfl)
theorem dX9_knock_3 : decode cX9_knock 3 = .ok (.invokestatic 87, 3) := dop_184 (dn_w dw155_0 3 rfl) rfl
theorem dX9_knock_6 : decode cX9_knock 6 = .ok (.ifCond .eq 13, 3) := dop_153 (dn_w dw155_0 6 rfl) rfl
theorem dX9_knock_9 : decode cX9_knock 9 = .ok (.aload_n 0, 1) := dop_42 (dn_w dw155_0 9 rfl)
theorem dX9_knock_10 : decode cX9_knock 10 = .ok (.iconst 1, 1) := dop_4 (dn_w dw155_0 10 rfl)
theorem dX9_knock_11 : decode cX9_knock 11 = .ok (.iload_n 1, 1) := dop_27 (dn_w dw155_0 11 rfl)
theorem dX9_knock_12 : decode cX9_knock 12 = .ok (.ishl, 1) := dop_120 (dn_w dw155_0 12 rfl)
theorem dX9_knock_13 : decode cX9_knock 13 = .ok (.invokevirtual 241, 3) := dop_182 (dn_w dw155_0 13 rfl) rfl
theorem dX9_knock_16 : decode cX9_knock 16 = .ok (.goto 4, 3) := dop_167 (dn_w dw155_1 0 rfl) rfl
theorem dX9_knock_19 : decode cX9_knock 19 = .ok (.iconst (-1), 1) := dop_2 (dn_w dw155_1 3 rfl)
theorem dX9_knock_20 : decode cX9_knock 20 = .ok (.ireturn, 1) := dop_172 (dn_w dw155_1 4 rfl)
noncomputable def dt156_4 : List Nat := 172 :: []
noncomputable def dt156_3 : List Nat := 5 :: 3 :: 172 :: 42 :: 180 :: 0 :: 19 :: 27 :: 92 :: 46 :: 4 :: 28 :: 120 :: 130 :: 79 :: 4 :: dt156_4
noncomputable def dt156_2 : List Nat := 28 :: 122 :: 4 :: 126 :: 4 :: 160 :: 0 :: 7 :: 4 :: 167 :: 0 :: 4 :: 3 :: 29 :: 160 :: 0 :: dt156_3
noncomputable def dt156_1 : List Nat := 4 :: 100 :: 184 :: 0 :: 87 :: 154 :: 0 :: 5 :: 2 :: 172 :: 42 :: 180 :: 0 :: 19 :: 27 :: 46 :: dt156_2
noncomputable def dt156_0 : List Nat := 42 :: 28 :: 182 :: 0 :: 206 :: 153 :: 0 :: 19 :: 27 :: 3 :: 42 :: 180 :: 0 :: 13 :: 3 :: 46 :: dt156_1
theorem dw156_0 : dn cX9_write 0 = dt156_0 := by decide +kernel
theorem dw156_1 : dn cX9_write 16 = dt156_1 := dn_w dw156_0 16 rfl
theorem dw156_2 : dn cX9_write 32 = dt156_2 := dn_w dw156_1 16 rfl
theorem dw156_3 : dn cX9_write 48 = dt156_3 := dn_w dw156_2 16 rfl
theorem dw156_4 : dn cX9_write 64 = dt156_4 := dn_w dw156_3 16 rfl
theorem dX9_write_0 : decode cX9_write 0 = .ok (.aload_n 0, 1) := dop_42 (dn_w dw156_0 0 rfl)
theorem dX9_write_1 : decode cX9_write 1 = .ok (.iload_n 2, 1) := dop_28 (dn_w dw156_0 1 rfl)
theorem dX9_write_2 : decode cX9_write 2 = .ok (.invokevirtual 206, 3) := dop_182 (dn_w dw156_0 2 rfl) rfl
theorem dX9_write_5 : decode cX9_write 5 = .ok (.ifCond .eq 19, 3) := dop_153 (dn_w dw156_0 5 rfl) rfl
theorem dX9_write_8 : decode cX9_write 8 = .ok (.iload_n 1, 1) := dop_27 (dn_w dw156_0 8 rfl)
theorem dX9_write_9 : decode cX9_write 9 = .ok (.iconst 0, 1) := dop_3 (dn_w dw156_0 9 rfl)
theorem dX9_write_10 : decode cX9_write 10 = .ok (.aload_n 0, 1) := dop_42 (dn_w dw156_0 10 rfl)
theorem dX9_write_11 : decode cX9_write 11 = .ok (.getfield 13, 3) := dop_180 (dn_w dw156_0 11 rfl) rfl
theorem dX9_write_14 : decode cX9_write 14 = .ok (.iconst 0, 1) := dop_3 (dn_w dw156_0 14 rfl)
theorem dX9_write_15 : decode cX9_write 15 = .ok (.iaload, 1) := dop_46 (dn_w dw156_0 15 rfl)
theorem dX9_write_16 : decode cX9_write 16 = .ok (.iconst 1, 1) := dop_4 (dn_w dw156_1 0 rfl)
theorem dX9_write_17 : decode cX9_write 17 = .ok (.isub, 1) := dop_100 (dn_w dw156_1 1 rfl)
theorem dX9_write_18 : decode cX9_write 18 = .ok (.invokestatic 87, 3) := dop_184 (dn_w dw156_1 2 rfl) rfl
theorem dX9_write_21 : decode cX9_write 21 = .ok (.ifCond .ne 5, 3) := dop_154 (dn_w dw156_1 5 rfl) rfl
theorem dX9_write_24 : decode cX9_write 24 = .ok (.iconst (-1), 1) := dop_2 (dn_w dw156_1 8 rfl)
theorem dX9_write_25 : decode cX9_write 25 = .ok (.ireturn, 1) := dop_172 (dn_w dw156_1 9 rfl)
theorem dX9_write_26 : decode cX9_write 26 = .ok (.aload_n 0, 1) := dop_42 (dn_w dw156_1 10 rfl)
theorem dX9_write_27 : decode cX9_write 27 = .ok (.getfield 19, 3) := dop_180 (dn_w dw156_1 11 rfl) rfl
theorem dX9_write_30 : decode cX9_write 30 = .ok (.iload_n 1, 1) := dop_27 (dn_w dw156_1 14 rfl)
theorem dX9_write_31 : decode cX9_write 31 = .ok (.iaload, 1) := dop_46 (dn_w dw156_1 15 rfl)
theorem dX9_write_32 : decode cX9_write 32 = .ok (.iload_n 2, 1) := dop_28 (dn_w dw156_2 0 rfl)
theorem dX9_write_33 : decode cX9_write 33 = .ok (.ishr, 1) := dop_122 (dn_w dw156_2 1 rfl)
theorem dX9_write_34 : decode cX9_write 34 = .ok (.iconst 1, 1) := dop_4 (dn_w dw156_2 2 rfl)
theorem dX9_write_35 : decode cX9_write 35 = .ok (.iand, 1) := dop_126 (dn_w dw156_2 3 rfl)
theorem dX9_write_36 : decode cX9_write 36 = .ok (.iconst 1, 1) := dop_4 (dn_w dw156_2 4 rfl)
theorem dX9_write_37 : decode cX9_write 37 = .ok (.if_icmp .ne 7, 3) := dop_160 (dn_w dw156_2 5 rfl) rfl
theorem dX9_write_40 : decode cX9_write 40 = .ok (.iconst 1, 1) := dop_4 (dn_w dw156_2 8 rfl)
theorem dX9_write_41 : decode cX9_write 41 = .ok (.goto 4, 3) := dop_167 (dn_w dw156_2 9 rfl) rfl
theorem dX9_write_44 : decode cX9_write 44 = .ok (.iconst 0, 1) := dop_3 (dn_w dw156_2 12 rfl)
theorem dX9_write_45 : decode cX9_write 45 = .ok (.iload_n 3, 1) := dop_29 (dn_w dw156_2 13 rfl)
theorem dX9_write_46 : decode cX9_write 46 = .ok (.if_icmp .ne 5, 3) := dop_160 (dn_w dw156_2 14 rfl) rfl
theorem dX9_write_49 : decode cX9_write 49 = .ok (.iconst 0, 1) := dop_3 (dn_w dw156_3 1 rfl)
theorem dX9_write_50 : decode cX9_write 50 = .ok (.ireturn, 1) := dop_172 (dn_w dw156_3 2 rfl)
theorem dX9_write_51 : decode cX9_write 51 = .ok (.aload_n 0, 1) := dop_42 (dn_w dw156_3 3 rfl)
theorem dX9_write_52 : decode cX9_write 52 = .ok (.getfield 19, 3) := dop_180 (dn_w dw156_3 4 rfl) rfl
theorem dX9_write_55 : decode cX9_write 55 = .ok (.iload_n 1, 1) := dop_27 (dn_w dw156_3 7 rfl)
theorem dX9_write_56 : decode cX9_write 56 = .ok (.dup2, 1) := dop_92 (dn_w dw156_3 8 rfl)
theorem dX9_write_57 : decode cX9_write 57 = .ok (.iaload, 1) := dop_46 (dn_w dw156_3 9 rfl)
theorem dX9_write_58 : decode cX9_write 58 = .ok (.iconst 1, 1) := dop_4 (dn_w dw156_3 10 rfl)
theorem dX9_write_59 : decode cX9_write 59 = .ok (.iload_n 2, 1) := dop_28 (dn_w dw156_3 11 rfl)
theorem dX9_write_60 : decode cX9_write 60 = .ok (.ishl, 1) := dop_120 (dn_w dw156_3 12 rfl)
theorem dX9_write_61 : decode cX9_write 61 = .ok (.ixor, 1) := dop_130 (dn_w dw156_3 13 rfl)
theorem dX9_write_62 : decode cX9_write 62 = .ok (.iastore, 1) := dop_79 (dn_w dw156_3 14 rfl)
theorem dX9_write_63 : decode cX9_write 63 = .ok (.iconst 1, 1) := dop_4 (dn_w dw156_3 15 rfl)
theorem dX9_write_64 : decode cX9_write 64 = .ok (.ireturn, 1) := dop_172 (dn_w dw156_4 0 rfl)
noncomputable def dt157_1 : List Nat := 61 :: 167 :: 255 :: 243 :: 27 :: 172 :: []
noncomputable def dt157_0 : List Nat := 3 :: 60 :: 26 :: 61 :: 28 :: 153 :: 0 :: 15 :: 132 :: 1 :: 1 :: 28 :: 28 :: 4 :: 100 :: 126 :: dt157_1
theorem dw157_0 : dn cX9_ones 0 = dt157_0 := by decide +kernel
theorem dw157_1 : dn cX9_ones 16 = dt157_1 := dn_w dw157_0 16 rfl
theorem dX9_ones_0 : decode cX9_ones 0 = .ok (.iconst 0, 1) := dop_3 (dn_w dw157_0 0 rfl)
theorem dX9_ones_1 : decode cX9_ones 1 = .ok (.istore_n 1, 1) := dop_60 (dn_w dw157_0 1 rfl)
theorem dX9_ones_2 : decode cX9_ones 2 = .ok (.iload_n 0, 1) := dop_26 (dn_w dw157_0 2 rfl)
theorem dX9_ones_3 : decode cX9_ones 3 = .ok (.istore_n 2, 1) := dop_61 (dn_w dw157_0 3 rfl)
theorem dX9_ones_4 : decode cX9_ones 4 = .ok (.iload_n 2, 1) := dop_28 (dn_w dw157_0 4 rfl)
theorem dX9_ones_5 : decode cX9_ones 5 = .ok (.ifCond .eq 15, 3) := dop_153 (dn_w dw157_0 5 rfl) rfl
theorem dX9_ones_8 : decode cX9_ones 8 = .ok (.iinc 1 1, 3) := dop_132 (dn_w dw157_0 8 rfl) rfl
theorem dX9_ones_11 : decode cX9_ones 11 = .ok (.iload_n 2, 1) := dop_28 (dn_w dw157_0 11 rfl)
theorem dX9_ones_12 : decode cX9_ones 12 = .ok (.iload_n 2, 1) := dop_28 (dn_w dw157_0 12 rfl)
theorem dX9_ones_13 : decode cX9_ones 13 = .ok (.iconst 1, 1) := dop_4 (dn_w dw157_0 13 rfl)
theorem dX9_ones_14 : decode cX9_ones 14 = .ok (.isub, 1) := dop_100 (dn_w dw157_0 14 rfl)
theorem dX9_ones_15 : decode cX9_ones 15 = .ok (.iand, 1) := dop_126 (dn_w dw157_0 15 rfl)
theorem dX9_ones_16 : decode cX9_ones 16 = .ok (.istore_n 2, 1) := dop_61 (dn_w dw157_1 0 rfl)
theorem dX9_ones_17 : decode cX9_ones 17 = .ok (.goto (-13), 3) := dop_167 (dn_w dw157_1 1 rfl) rfl
theorem dX9_ones_20 : decode cX9_ones 20 = .ok (.iload_n 1, 1) := dop_27 (dn_w dw157_1 4 rfl)
theorem dX9_ones_21 : decode cX9_ones 21 = .ok (.ireturn, 1) := dop_172 (dn_w dw157_1 5 rfl)
noncomputable def dt158_2 : List Nat := 61 :: 132 :: 3 :: 1 :: 167 :: 255 :: 234 :: 28 :: 172 :: []
noncomputable def dt158_1 : List Nat := 40 :: 162 :: 0 :: 22 :: 28 :: 42 :: 180 :: 0 :: 19 :: 29 :: 46 :: 27 :: 122 :: 4 :: 126 :: 96 :: dt158_2
noncomputable def dt158_0 : List Nat := 42 :: 27 :: 182 :: 0 :: 206 :: 154 :: 0 :: 5 :: 2 :: 172 :: 3 :: 61 :: 3 :: 62 :: 29 :: 16 :: dt158_1
theorem dw158_0 : dn cX9_marks 0 = dt158_0 := by decide +kernel
theorem dw158_1 : dn cX9_marks 16 = dt158_1 := dn_w dw158_0 16 rfl
theorem dw158_2 : dn cX9_marks 32 = dt158_2 := dn_w dw158_1 16 rfl
theorem dX9_marks_0 : decode cX9_marks 0 = .ok (.aload_n 0, 1) := dop_42 (dn_w dw158_0 0 rfl)
theorem dX9_marks_1 : decode cX9_marks 1 = .ok (.iload_n 1, 1) := dop_27 (dn_w dw158_0 1 rfl)
theorem dX9_marks_2 : decode cX9_marks 2 = .ok (.invokevirtual 206, 3) := dop_182 (dn_w dw158_0 2 rfl) rfl
theorem dX9_marks_5 : decode cX9_marks 5 = .ok (.ifCond .ne 5, 3) := dop_154 (dn_w dw158_0 5 rfl) rfl
theorem dX9_marks_8 : decode cX9_marks 8 = .ok (.iconst (-1), 1) := dop_2 (dn_w dw158_0 8 rfl)
theorem dX9_marks_9 : decode cX9_marks 9 = .ok (.ireturn, 1) := dop_172 (dn_w dw158_0 9 rfl)
theorem dX9_marks_10 : decode cX9_marks 10 = .ok (.iconst 0, 1) := dop_3 (dn_w dw158_0 10 rfl)
theorem dX9_marks_11 : decode cX9_marks 11 = .ok (.istore_n 2, 1) := dop_61 (dn_w dw158_0 11 rfl)
theorem dX9_marks_12 : decode cX9_marks 12 = .ok (.iconst 0, 1) := dop_3 (dn_w dw158_0 12 rfl)
theorem dX9_marks_13 : decode cX9_marks 13 = .ok (.istore_n 3, 1) := dop_62 (dn_w dw158_0 13 rfl)
theorem dX9_marks_14 : decode cX9_marks 14 = .ok (.iload_n 3, 1) := dop_29 (dn_w dw158_0 14 rfl)
theorem dX9_marks_15 : decode cX9_marks 15 = .ok (.bipush 40, 2) := dop_16 (dn_w dw158_0 15 rfl) rfl
theorem dX9_marks_17 : decode cX9_marks 17 = .ok (.if_icmp .ge 22, 3) := dop_162 (dn_w dw158_1 1 rfl) rfl
theorem dX9_marks_20 : decode cX9_marks 20 = .ok (.iload_n 2, 1) := dop_28 (dn_w dw158_1 4 rfl)
theorem dX9_marks_21 : decode cX9_marks 21 = .ok (.aload_n 0, 1) := dop_42 (dn_w dw158_1 5 rfl)
theorem dX9_marks_22 : decode cX9_marks 22 = .ok (.getfield 19, 3) := dop_180 (dn_w dw158_1 6 rfl) rfl
theorem dX9_marks_25 : decode cX9_marks 25 = .ok (.iload_n 3, 1) := dop_29 (dn_w dw158_1 9 rfl)
theorem dX9_marks_26 : decode cX9_marks 26 = .ok (.iaload, 1) := dop_46 (dn_w dw158_1 10 rfl)
theorem dX9_marks_27 : decode cX9_marks 27 = .ok (.iload_n 1, 1) := dop_27 (dn_w dw158_1 11 rfl)
theorem dX9_marks_28 : decode cX9_marks 28 = .ok (.ishr, 1) := dop_122 (dn_w dw158_1 12 rfl)
theorem dX9_marks_29 : decode cX9_marks 29 = .ok (.iconst 1, 1) := dop_4 (dn_w dw158_1 13 rfl)
theorem dX9_marks_30 : decode cX9_marks 30 = .ok (.iand, 1) := dop_126 (dn_w dw158_1 14 rfl)
theorem dX9_marks_31 : decode cX9_marks 31 = .ok (.iadd, 1) := dop_96 (dn_w dw158_1 15 rfl)
theorem dX9_marks_32 : decode cX9_marks 32 = .ok (.istore_n 2, 1) := dop_61 (dn_w dw158_2 0 rfl)
theorem dX9_marks_33 : decode cX9_marks 33 = .ok (.iinc 3 1, 3) := dop_132 (dn_w dw158_2 1 rfl) rfl
theorem dX9_marks_36 : decode cX9_marks 36 = .ok (.goto (-22), 3) := dop_167 (dn_w dw158_2 4 rfl) rfl
theorem dX9_marks_39 : decode cX9_marks 39 = .ok (.iload_n 2, 1) := dop_28 (dn_w dw158_2 7 rfl)
theorem dX9_marks_40 : decode cX9_marks 40 = .ok (.ireturn, 1) := dop_172 (dn_w dw158_2 8 rfl)
noncomputable def dt159_8 : List Nat := 7 :: 29 :: 167 :: 0 :: 5 :: 21 :: 4 :: 172 :: []
noncomputable def dt159_7 : List Nat := 1 :: 167 :: 255 :: 165 :: 27 :: 154 :: 0 :: 7 :: 28 :: 167 :: 0 :: 14 :: 27 :: 4 :: 160 :: 0 :: dt159_8
noncomputable def dt159_6 : List Nat := 5 :: 46 :: 159 :: 0 :: 8 :: 21 :: 5 :: 167 :: 0 :: 5 :: 21 :: 4 :: 54 :: 4 :: 132 :: 5 :: dt159_7
noncomputable def dt159_5 : List Nat := 4 :: 156 :: 0 :: 25 :: 42 :: 180 :: 0 :: 19 :: 21 :: 5 :: 46 :: 42 :: 180 :: 0 :: 22 :: 21 :: dt159_6
noncomputable def dt159_4 : List Nat := 42 :: 180 :: 0 :: 19 :: 21 :: 5 :: 46 :: 2 :: 130 :: 126 :: 184 :: 0 :: 244 :: 96 :: 62 :: 21 :: dt159_5
noncomputable def dt159_3 : List Nat := 2 :: 130 :: 126 :: 184 :: 0 :: 244 :: 96 :: 61 :: 29 :: 42 :: 180 :: 0 :: 22 :: 21 :: 5 :: 46 :: dt159_4
noncomputable def dt159_2 : List Nat := 86 :: 28 :: 42 :: 180 :: 0 :: 19 :: 21 :: 5 :: 46 :: 42 :: 180 :: 0 :: 22 :: 21 :: 5 :: 46 :: dt159_3
noncomputable def dt159_1 : List Nat := 247 :: 54 :: 4 :: 3 :: 54 :: 5 :: 21 :: 5 :: 42 :: 180 :: 0 :: 13 :: 3 :: 46 :: 162 :: 0 :: dt159_2
noncomputable def dt159_0 : List Nat := 27 :: 3 :: 5 :: 184 :: 0 :: 87 :: 154 :: 0 :: 5 :: 2 :: 172 :: 3 :: 61 :: 3 :: 62 :: 16 :: dt159_1
theorem dw159_0 : dn cX9_wrong 0 = dt159_0 := by decide +kernel
theorem dw159_1 : dn cX9_wrong 16 = dt159_1 := dn_w dw159_0 16 rfl
theorem dw159_2 : dn cX9_wrong 32 = dt159_2 := dn_w dw159_1 16 rfl
theorem dw159_3 : dn cX9_wrong 48 = dt159_3 := dn_w dw159_2 16 rfl
theorem dw159_4 : dn cX9_wrong 64 = dt159_4 := dn_w dw159_3 16 rfl
theorem dw159_5 : dn cX9_wrong 80 = dt159_5 := dn_w dw159_4 16 rfl
theorem dw159_6 : dn cX9_wrong 96 = dt159_6 := dn_w dw159_5 16 rfl
theorem dw159_7 : dn cX9_wrong 112 = dt159_7 := dn_w dw159_6 16 rfl
theorem dw159_8 : dn cX9_wrong 128 = dt159_8 := dn_w dw159_7 16 rfl
theorem dX9_wrong_0 : decode cX9_wrong 0 = .ok (.iload_n 1, 1) := dop_27 (dn_w dw159_0 0 rfl)
theorem dX9_wrong_1 : decode cX9_wrong 1 = .ok (.iconst 0, 1) := dop_3 (dn_w dw159_0 1 rfl)
theorem dX9_wrong_2 : decode cX9_wrong 2 = .ok (.iconst 2, 1) := dop_5 (dn_w dw159_0 2 rfl)
theorem dX9_wrong_3 : decode cX9_wrong 3 = .ok (.invokestatic 87, 3) := dop_184 (dn_w dw159_0 3 rfl) rfl
theorem dX9_wrong_6 : decode cX9_wrong 6 = .ok (.ifCond .ne 5, 3) := dop_154 (dn_w dw159_0 6 rfl) rfl
theorem dX9_wrong_9 : decode cX9_wrong 9 = .ok (.iconst (-1), 1) := dop_2 (dn_w dw159_0 9 rfl)
theorem dX9_wrong_10 : decode cX9_wrong 10 = .ok (.ireturn, 1) := dop_172 (dn_w dw159_0 10 rfl)
theorem dX9_wrong_11 : decode cX9_wrong 11 = .ok (.iconst 0, 1) := dop_3 (dn_w dw159_0 11 rfl)
theorem dX9_wrong_12 : decode cX9_wrong 12 = .ok (.istore_n 2, 1) := dop_61 (dn_w dw159_0 12 rfl)
theorem dX9_wrong_13 : decode cX9_wrong 13 = .ok (.iconst 0, 1) := dop_3 (dn_w dw159_0 13 rfl)
theorem dX9_wrong_14 : decode cX9_wrong 14 = .ok (.istore_n 3, 1) := dop_62 (dn_w dw159_0 14 rfl)
theorem dX9_wrong_15 : decode cX9_wrong 15 = .ok (.bipush (-9), 2) := dop_16 (dn_w dw159_0 15 rfl) rfl
theorem dX9_wrong_17 : decode cX9_wrong 17 = .ok (.istore 4, 2) := dop_54 (dn_w dw159_1 1 rfl)
theorem dX9_wrong_19 : decode cX9_wrong 19 = .ok (.iconst 0, 1) := dop_3 (dn_w dw159_1 3 rfl)
theorem dX9_wrong_20 : decode cX9_wrong 20 = .ok (.istore 5, 2) := dop_54 (dn_w dw159_1 4 rfl)
theorem dX9_wrong_22 : decode cX9_wrong 22 = .ok (.iload 5, 2) := dop_21 (dn_w dw159_1 6 rfl)
theorem dX9_wrong_24 : decode cX9_wrong 24 = .ok (.aload_n 0, 1) := dop_42 (dn_w dw159_1 8 rfl)
theorem dX9_wrong_25 : decode cX9_wrong 25 = .ok (.getfield 13, 3) := dop_180 (dn_w dw159_1 9 rfl) rfl
theorem dX9_wrong_28 : decode cX9_wrong 28 = .ok (.iconst 0, 1) := dop_3 (dn_w dw159_1 12 rfl)
theorem dX9_wrong_29 : decode cX9_wrong 29 = .ok (.iaload, 1) := dop_46 (dn_w dw159_1 13 rfl)
theorem dX9_wrong_30 : decode cX9_wrong 30 = .ok (.if_icmp .ge 86, 3) := dop_162 (dn_w dw159_1 14 rfl) rfl
theorem dX9_wrong_33 : decode cX9_wrong 33 = .ok (.iload_n 2, 1) := dop_28 (dn_w dw159_2 1 rfl)
theorem dX9_wrong_34 : decode cX9_wrong 34 = .ok (.aload_n 0, 1) := dop_42 (dn_w dw159_2 2 rfl)
theorem dX9_wrong_35 : decode cX9_wrong 35 = .ok (.getfield 19, 3) := dop_180 (dn_w dw159_2 3 rfl) rfl
theorem dX9_wrong_38 : decode cX9_wrong 38 = .ok (.iload 5, 2) := dop_21 (dn_w dw159_2 6 rfl)
theorem dX9_wrong_40 : decode cX9_wrong 40 = .ok (.iaload, 1) := dop_46 (dn_w dw159_2 8 rfl)
theorem dX9_wrong_41 : decode cX9_wrong 41 = .ok (.aload_n 0, 1) := dop_42 (dn_w dw159_2 9 rfl)
theorem dX9_wrong_42 : decode cX9_wrong 42 = .ok (.getfield 22, 3) := dop_180 (dn_w dw159_2 10 rfl) rfl
theorem dX9_wrong_45 : decode cX9_wrong 45 = .ok (.iload 5, 2) := dop_21 (dn_w dw159_2 13 rfl)
theorem dX9_wrong_47 : decode cX9_wrong 47 = .ok (.iaload, 1) := dop_46 (dn_w dw159_2 15 rfl)
theorem dX9_wrong_48 : decode cX9_wrong 48 = .ok (.iconst (-1), 1) := dop_2 (dn_w dw159_3 0 rfl)
theorem dX9_wrong_49 : decode cX9_wrong 49 = .ok (.ixor, 1) := dop_130 (dn_w dw159_3 1 rfl)
theorem dX9_wrong_50 : decode cX9_wrong 50 = .ok (.iand, 1) := dop_126 (dn_w dw159_3 2 rfl)
theorem dX9_wrong_51 : decode cX9_wrong 51 = .ok (.invokestatic 244, 3) := dop_184 (dn_w dw159_3 3 rfl) rfl
theorem dX9_wrong_54 : decode cX9_wrong 54 = .ok (.iadd, 1) := dop_96 (dn_w dw159_3 6 rfl)
theorem dX9_wrong_55 : decode cX9_wrong 55 = .ok (.istore_n 2, 1) := dop_61 (dn_w dw159_3 7 rfl)
theorem dX9_wrong_56 : decode cX9_wrong 56 = .ok (.iload_n 3, 1) := dop_29 (dn_w dw159_3 8 rfl)
theorem dX9_wrong_57 : decode cX9_wrong 57 = .ok (.aload_n 0, 1) := dop_42 (dn_w dw159_3 9 rfl)
theorem dX9_wrong_58 : decode cX9_wrong 58 = .ok (.getfield 22, 3) := dop_180 (dn_w dw159_3 10 rfl) rfl
theorem dX9_wrong_61 : decode cX9_wrong 61 = .ok (.iload 5, 2) := dop_21 (dn_w dw159_3 13 rfl)
theorem dX9_wrong_63 : decode cX9_wrong 63 = .ok (.iaload, 1) := dop_46 (dn_w dw159_3 15 rfl)
theorem dX9_wrong_64 : decode cX9_wrong 64 = .ok (.aload_n 0, 1) := dop_42 (dn_w dw159_4 0 rfl)
theorem dX9_wrong_65 : decode cX9_wrong 65 = .ok (.getfield 19, 3) := dop_180 (dn_w dw159_4 1 rfl) rfl
theorem dX9_wrong_68 : decode cX9_wrong 68 = .ok (.iload 5, 2) := dop_21 (dn_w dw159_4 4 rfl)
theorem dX9_wrong_70 : decode cX9_wrong 70 = .ok (.iaload, 1) := dop_46 (dn_w dw159_4 6 rfl)
theorem dX9_wrong_71 : decode cX9_wrong 71 = .ok (.iconst (-1), 1) := dop_2 (dn_w dw159_4 7 rfl)
theorem dX9_wrong_72 : decode cX9_wrong 72 = .ok (.ixor, 1) := dop_130 (dn_w dw159_4 8 rfl)
theorem dX9_wrong_73 : decode cX9_wrong 73 = .ok (.iand, 1) := dop_126 (dn_w dw159_4 9 rfl)
theorem dX9_wrong_74 : decode cX9_wrong 74 = .ok (.invokestatic 244, 3) := dop_184 (dn_w dw159_4 10 rfl) rfl
theorem dX9_wrong_77 : decode cX9_wrong 77 = .ok (.iadd, 1) := dop_96 (dn_w dw159_4 13 rfl)
theorem dX9_wrong_78 : decode cX9_wrong 78 = .ok (.istore_n 3, 1) := dop_62 (dn_w dw159_4 14 rfl)
theorem dX9_wrong_79 : decode cX9_wrong 79 = .ok (.iload 4, 2) := dop_21 (dn_w dw159_4 15 rfl)
theorem dX9_wrong_81 : decode cX9_wrong 81 = .ok (.ifCond .ge 25, 3) := dop_156 (dn_w dw159_5 1 rfl) rfl
theorem dX9_wrong_84 : decode cX9_wrong 84 = .ok (.aload_n 0, 1) := dop_42 (dn_w dw159_5 4 rfl)
theorem dX9_wrong_85 : decode cX9_wrong 85 = .ok (.getfield 19, 3) := dop_180 (dn_w dw159_5 5 rfl) rfl
theorem dX9_wrong_88 : decode cX9_wrong 88 = .ok (.iload 5, 2) := dop_21 (dn_w dw159_5 8 rfl)
theorem dX9_wrong_90 : decode cX9_wrong 90 = .ok (.iaload, 1) := dop_46 (dn_w dw159_5 10 rfl)
theorem dX9_wrong_91 : decode cX9_wrong 91 = .ok (.aload_n 0, 1) := dop_42 (dn_w dw159_5 11 rfl)
theorem dX9_wrong_92 : decode cX9_wrong 92 = .ok (.getfield 22, 3) := dop_180 (dn_w dw159_5 12 rfl) rfl
theorem dX9_wrong_95 : decode cX9_wrong 95 = .ok (.iload 5, 2) := dop_21 (dn_w dw159_5 15 rfl)
theorem dX9_wrong_97 : decode cX9_wrong 97 = .ok (.iaload, 1) := dop_46 (dn_w dw159_6 1 rfl)
theorem dX9_wrong_98 : decode cX9_wrong 98 = .ok (.if_icmp .eq 8, 3) := dop_159 (dn_w dw159_6 2 rfl) rfl
theorem dX9_wrong_101 : decode cX9_wrong 101 = .ok (.iload 5, 2) := dop_21 (dn_w dw159_6 5 rfl)
theorem dX9_wrong_103 : decode cX9_wrong 103 = .ok (.goto 5, 3) := dop_167 (dn_w dw159_6 7 rfl) rfl
theorem dX9_wrong_106 : decode cX9_wrong 106 = .ok (.iload 4, 2) := dop_21 (dn_w dw159_6 10 rfl)
theorem dX9_wrong_108 : decode cX9_wrong 108 = .ok (.istore 4, 2) := dop_54 (dn_w dw159_6 12 rfl)
theorem dX9_wrong_110 : decode cX9_wrong 110 = .ok (.iinc 5 1, 3) := dop_132 (dn_w dw159_6 14 rfl) rfl
theorem dX9_wrong_113 : decode cX9_wrong 113 = .ok (.goto (-91), 3) := dop_167 (dn_w dw159_7 1 rfl) rfl
theorem dX9_wrong_116 : decode cX9_wrong 116 = .ok (.iload_n 1, 1) := dop_27 (dn_w dw159_7 4 rfl)
theorem dX9_wrong_117 : decode cX9_wrong 117 = .ok (.ifCond .ne 7, 3) := dop_154 (dn_w dw159_7 5 rfl) rfl
theorem dX9_wrong_120 : decode cX9_wrong 120 = .ok (.iload_n 2, 1) := dop_28 (dn_w dw159_7 8 rfl)
theorem dX9_wrong_121 : decode cX9_wrong 121 = .ok (.goto 14, 3) := dop_167 (dn_w dw159_7 9 rfl) rfl
theorem dX9_wrong_124 : decode cX9_wrong 124 = .ok (.iload_n 1, 1) := dop_27 (dn_w dw159_7 12 rfl)
theorem dX9_wrong_125 : decode cX9_wrong 125 = .ok (.iconst 1, 1) := dop_4 (dn_w dw159_7 13 rfl)
theorem dX9_wrong_126 : decode cX9_wrong 126 = .ok (.if_icmp .ne 7, 3) := dop_160 (dn_w dw159_7 14 rfl) rfl
theorem dX9_wrong_129 : decode cX9_wrong 129 = .ok (.iload_n 3, 1) := dop_29 (dn_w dw159_8 1 rfl)
theorem dX9_wrong_130 : decode cX9_wrong 130 = .ok (.goto 5, 3) := dop_167 (dn_w dw159_8 2 rfl) rfl
theorem dX9_wrong_133 : decode cX9_wrong 133 = .ok (.iload 4, 2) := dop_21 (dn_w dw159_8 5 rfl)
theorem dX9_wrong_135 : decode cX9_wrong 135 = .ok (.ireturn, 1) := dop_172 (dn_w dw159_8 7 rfl)
noncomputable def dt160_4 : List Nat := 1 :: 167 :: 255 :: 208 :: 28 :: 172 :: []
noncomputable def dt160_3 : List Nat := 4 :: 96 :: 62 :: 29 :: 28 :: 164 :: 0 :: 7 :: 29 :: 167 :: 0 :: 4 :: 28 :: 61 :: 132 :: 4 :: dt160_4
noncomputable def dt160_2 : List Nat := 21 :: 4 :: 46 :: 27 :: 122 :: 4 :: 126 :: 4 :: 160 :: 0 :: 7 :: 3 :: 167 :: 0 :: 6 :: 29 :: dt160_3
noncomputable def dt160_1 : List Nat := 4 :: 21 :: 4 :: 42 :: 180 :: 0 :: 13 :: 3 :: 46 :: 162 :: 0 :: 43 :: 42 :: 180 :: 0 :: 19 :: dt160_2
noncomputable def dt160_0 : List Nat := 42 :: 27 :: 182 :: 0 :: 206 :: 154 :: 0 :: 5 :: 2 :: 172 :: 3 :: 61 :: 3 :: 62 :: 3 :: 54 :: dt160_1
theorem dw160_0 : dn cX9_longest 0 = dt160_0 := by decide +kernel
theorem dw160_1 : dn cX9_longest 16 = dt160_1 := dn_w dw160_0 16 rfl
theorem dw160_2 : dn cX9_longest 32 = dt160_2 := dn_w dw160_1 16 rfl
theorem dw160_3 : dn cX9_longest 48 = dt160_3 := dn_w dw160_2 16 rfl
theorem dw160_4 : dn cX9_longest 64 = dt160_4 := dn_w dw160_3 16 rfl
theorem dX9_longest_0 : decode cX9_longest 0 = .ok (.aload_n 0, 1) := dop_42 (dn_w dw160_0 0 rfl)
theorem dX9_longest_1 : decode cX9_longest 1 = .ok (.iload_n 1, 1) := dop_27 (dn_w dw160_0 1 rfl)
theorem dX9_longest_2 : decode cX9_longest 2 = .ok (.invokevirtual 206, 3) := dop_182 (dn_w dw160_0 2 rfl) rfl
theorem dX9_longest_5 : decode cX9_longest 5 = .ok (.ifCond .ne 5, 3) := dop_154 (dn_w dw160_0 5 rfl) rfl
theorem dX9_longest_8 : decode cX9_longest 8 = .ok (.iconst (-1), 1) := dop_2 (dn_w dw160_0 8 rfl)
theorem dX9_longest_9 : decode cX9_longest 9 = .ok (.ireturn, 1) := dop_172 (dn_w dw160_0 9 rfl)
theorem dX9_longest_10 : decode cX9_longest 10 = .ok (.iconst 0, 1) := dop_3 (dn_w dw160_0 10 rfl)
theorem dX9_longest_11 : decode cX9_longest 11 = .ok (.istore_n 2, 1) := dop_61 (dn_w dw160_0 11 rfl)
theorem dX9_longest_12 : decode cX9_longest 12 = .ok (.iconst 0, 1) := dop_3 (dn_w dw160_0 12 rfl)
theorem dX9_longest_13 : decode cX9_longest 13 = .ok (.istore_n 3, 1) := dop_62 (dn_w dw160_0 13 rfl)
theorem dX9_longest_14 : decode cX9_longest 14 = .ok (.iconst 0, 1) := dop_3 (dn_w dw160_0 14 rfl)
theorem dX9_longest_15 : decode cX9_longest 15 = .ok (.istore 4, 2) := dop_54 (dn_w dw160_0 15 rfl)
theorem dX9_longest_17 : decode cX9_longest 17 = .ok (.iload 4, 2) := dop_21 (dn_w dw160_1 1 rfl)
theorem dX9_longest_19 : decode cX9_longest 19 = .ok (.aload_n 0, 1) := dop_42 (dn_w dw160_1 3 rfl)
theorem dX9_longest_20 : decode cX9_longest 20 = .ok (.getfield 13, 3) := dop_180 (dn_w dw160_1 4 rfl) rfl
theorem dX9_longest_23 : decode cX9_longest 23 = .ok (.iconst 0, 1) := dop_3 (dn_w dw160_1 7 rfl)
theorem dX9_longest_24 : decode cX9_longest 24 = .ok (.iaload, 1) := dop_46 (dn_w dw160_1 8 rfl)
theorem dX9_longest_25 : decode cX9_longest 25 = .ok (.if_icmp .ge 43, 3) := dop_162 (dn_w dw160_1 9 rfl) rfl
theorem dX9_longest_28 : decode cX9_longest 28 = .ok (.aload_n 0, 1) := dop_42 (dn_w dw160_1 12 rfl)
theorem dX9_longest_29 : decode cX9_longest 29 = .ok (.getfield 19, 3) := dop_180 (dn_w dw160_1 13 rfl) rfl
theorem dX9_longest_32 : decode cX9_longest 32 = .ok (.iload 4, 2) := dop_21 (dn_w dw160_2 0 rfl)
theorem dX9_longest_34 : decode cX9_longest 34 = .ok (.iaload, 1) := dop_46 (dn_w dw160_2 2 rfl)
theorem dX9_longest_35 : decode cX9_longest 35 = .ok (.iload_n 1, 1) := dop_27 (dn_w dw160_2 3 rfl)
theorem dX9_longest_36 : decode cX9_longest 36 = .ok (.ishr, 1) := dop_122 (dn_w dw160_2 4 rfl)
theorem dX9_longest_37 : decode cX9_longest 37 = .ok (.iconst 1, 1) := dop_4 (dn_w dw160_2 5 rfl)
theorem dX9_longest_38 : decode cX9_longest 38 = .ok (.iand, 1) := dop_126 (dn_w dw160_2 6 rfl)
theorem dX9_longest_39 : decode cX9_longest 39 = .ok (.iconst 1, 1) := dop_4 (dn_w dw160_2 7 rfl)
theorem dX9_longest_40 : decode cX9_longest 40 = .ok (.if_icmp .ne 7, 3) := dop_160 (dn_w dw160_2 8 rfl) rfl
theorem dX9_longest_43 : decode cX9_longest 43 = .ok (.iconst 0, 1) := dop_3 (dn_w dw160_2 11 rfl)
theorem dX9_longest_44 : decode cX9_longest 44 = .ok (.goto 6, 3) := dop_167 (dn_w dw160_2 12 rfl) rfl
theorem dX9_longest_47 : decode cX9_longest 47 = .ok (.iload_n 3, 1) := dop_29 (dn_w dw160_2 15 rfl)
theorem dX9_longest_48 : decode cX9_longest 48 = .ok (.iconst 1, 1) := dop_4 (dn_w dw160_3 0 rfl)
theorem dX9_longest_49 : decode cX9_longest 49 = .ok (.iadd, 1) := dop_96 (dn_w dw160_3 1 rfl)
theorem dX9_longest_50 : decode cX9_longest 50 = .ok (.istore_n 3, 1) := dop_62 (dn_w dw160_3 2 rfl)
theorem dX9_longest_51 : decode cX9_longest 51 = .ok (.iload_n 3, 1) := dop_29 (dn_w dw160_3 3 rfl)
theorem dX9_longest_52 : decode cX9_longest 52 = .ok (.iload_n 2, 1) := dop_28 (dn_w dw160_3 4 rfl)
theorem dX9_longest_53 : decode cX9_longest 53 = .ok (.if_icmp .le 7, 3) := dop_164 (dn_w dw160_3 5 rfl) rfl
theorem dX9_longest_56 : decode cX9_longest 56 = .ok (.iload_n 3, 1) := dop_29 (dn_w dw160_3 8 rfl)
theorem dX9_longest_57 : decode cX9_longest 57 = .ok (.goto 4, 3) := dop_167 (dn_w dw160_3 9 rfl) rfl
theorem dX9_longest_60 : decode cX9_longest 60 = .ok (.iload_n 2, 1) := dop_28 (dn_w dw160_3 12 rfl)
theorem dX9_longest_61 : decode cX9_longest 61 = .ok (.istore_n 2, 1) := dop_61 (dn_w dw160_3 13 rfl)
theorem dX9_longest_62 : decode cX9_longest 62 = .ok (.iinc 4 1, 3) := dop_132 (dn_w dw160_3 14 rfl) rfl
theorem dX9_longest_65 : decode cX9_longest 65 = .ok (.goto (-48), 3) := dop_167 (dn_w dw160_4 1 rfl) rfl
theorem dX9_longest_68 : decode cX9_longest 68 = .ok (.iload_n 2, 1) := dop_28 (dn_w dw160_4 4 rfl)
theorem dX9_longest_69 : decode cX9_longest 69 = .ok (.ireturn, 1) := dop_172 (dn_w dw160_4 5 rfl)
noncomputable def dt161_2 : List Nat := 255 :: 232 :: 42 :: 16 :: 25 :: 181 :: 0 :: 222 :: 177 :: []
noncomputable def dt161_1 : List Nat := 13 :: 16 :: 25 :: 27 :: 96 :: 42 :: 180 :: 0 :: 13 :: 27 :: 46 :: 79 :: 132 :: 1 :: 1 :: 167 :: dt161_2
noncomputable def dt161_0 : List Nat := 42 :: 3 :: 181 :: 0 :: 222 :: 3 :: 60 :: 27 :: 16 :: 25 :: 162 :: 0 :: 24 :: 42 :: 180 :: 0 :: dt161_1
theorem dw161_0 : dn cX9_lends 0 = dt161_0 := by decide +kernel
theorem dw161_1 : dn cX9_lends 16 = dt161_1 := dn_w dw161_0 16 rfl
theorem dw161_2 : dn cX9_lends 32 = dt161_2 := dn_w dw161_1 16 rfl
theorem dX9_lends_0 : decode cX9_lends 0 = .ok (.aload_n 0, 1) := dop_42 (dn_w dw161_0 0 rfl)
theorem dX9_lends_1 : decode cX9_lends 1 = .ok (.iconst 0, 1) := dop_3 (dn_w dw161_0 1 rfl)
theorem dX9_lends_2 : decode cX9_lends 2 = .ok (.putfield 222, 3) := dop_181 (dn_w dw161_0 2 rfl) rfl
theorem dX9_lends_5 : decode cX9_lends 5 = .ok (.iconst 0, 1) := dop_3 (dn_w dw161_0 5 rfl)
theorem dX9_lends_6 : decode cX9_lends 6 = .ok (.istore_n 1, 1) := dop_60 (dn_w dw161_0 6 rfl)
theorem dX9_lends_7 : decode cX9_lends 7 = .ok (.iload_n 1, 1) := dop_27 (dn_w dw161_0 7 rfl)
theorem dX9_lends_8 : decode cX9_lends 8 = .ok (.bipush 25, 2) := dop_16 (dn_w dw161_0 8 rfl) rfl
theorem dX9_lends_10 : decode cX9_lends 10 = .ok (.if_icmp .ge 24, 3) := dop_162 (dn_w dw161_0 10 rfl) rfl
theorem dX9_lends_13 : decode cX9_lends 13 = .ok (.aload_n 0, 1) := dop_42 (dn_w dw161_0 13 rfl)
theorem dX9_lends_14 : decode cX9_lends 14 = .ok (.getfield 13, 3) := dop_180 (dn_w dw161_0 14 rfl) rfl
theorem dX9_lends_17 : decode cX9_lends 17 = .ok (.bipush 25, 2) := dop_16 (dn_w dw161_1 1 rfl) rfl
theorem dX9_lends_19 : decode cX9_lends 19 = .ok (.iload_n 1, 1) := dop_27 (dn_w dw161_1 3 rfl)
theorem dX9_lends_20 : decode cX9_lends 20 = .ok (.iadd, 1) := dop_96 (dn_w dw161_1 4 rfl)
theorem dX9_lends_21 : decode cX9_lends 21 = .ok (.aload_n 0, 1) := dop_42 (dn_w dw161_1 5 rfl)
theorem dX9_lends_22 : decode cX9_lends 22 = .ok (.getfield 13, 3) := dop_180 (dn_w dw161_1 6 rfl) rfl
theorem dX9_lends_25 : decode cX9_lends 25 = .ok (.iload_n 1, 1) := dop_27 (dn_w dw161_1 9 rfl)
theorem dX9_lends_26 : decode cX9_lends 26 = .ok (.iaload, 1) := dop_46 (dn_w dw161_1 10 rfl)
theorem dX9_lends_27 : decode cX9_lends 27 = .ok (.iastore, 1) := dop_79 (dn_w dw161_1 11 rfl)
theorem dX9_lends_28 : decode cX9_lends 28 = .ok (.iinc 1 1, 3) := dop_132 (dn_w dw161_1 12 rfl) rfl
theorem dX9_lends_31 : decode cX9_lends 31 = .ok (.goto (-24), 3) := dop_167 (dn_w dw161_1 15 rfl) rfl
theorem dX9_lends_34 : decode cX9_lends 34 = .ok (.aload_n 0, 1) := dop_42 (dn_w dw161_2 2 rfl)
theorem dX9_lends_35 : decode cX9_lends 35 = .ok (.bipush 25, 2) := dop_16 (dn_w dw161_2 3 rfl) rfl
theorem dX9_lends_37 : decode cX9_lends 37 = .ok (.putfield 222, 3) := dop_181 (dn_w dw161_2 5 rfl) rfl
theorem dX9_lends_40 : decode cX9_lends 40 = .ok (.return_, 1) := dop_177 (dn_w dw161_2 8 rfl)
noncomputable def dt162_2 : List Nat := 61 :: 132 :: 3 :: 1 :: 167 :: 255 :: 224 :: 28 :: 172 :: []
noncomputable def dt162_1 : List Nat := 222 :: 46 :: 16 :: 40 :: 162 :: 0 :: 19 :: 28 :: 42 :: 182 :: 0 :: 238 :: 184 :: 0 :: 244 :: 96 :: dt162_2
noncomputable def dt162_0 : List Nat := 3 :: 61 :: 3 :: 62 :: 29 :: 27 :: 162 :: 0 :: 33 :: 42 :: 180 :: 0 :: 13 :: 42 :: 180 :: 0 :: dt162_1
theorem dw162_0 : dn cX9_comes 0 = dt162_0 := by decide +kernel
theorem dw162_1 : dn cX9_comes 16 = dt162_1 := dn_w dw162_0 16 rfl
theorem dw162_2 : dn cX9_comes 32 = dt162_2 := dn_w dw162_1 16 rfl
theorem dX9_comes_0 : decode cX9_comes 0 = .ok (.iconst 0, 1) := dop_3 (dn_w dw162_0 0 rfl)
theorem dX9_comes_1 : decode cX9_comes 1 = .ok (.istore_n 2, 1) := dop_61 (dn_w dw162_0 1 rfl)
theorem dX9_comes_2 : decode cX9_comes 2 = .ok (.iconst 0, 1) := dop_3 (dn_w dw162_0 2 rfl)
theorem dX9_comes_3 : decode cX9_comes 3 = .ok (.istore_n 3, 1) := dop_62 (dn_w dw162_0 3 rfl)
theorem dX9_comes_4 : decode cX9_comes 4 = .ok (.iload_n 3, 1) := dop_29 (dn_w dw162_0 4 rfl)
theorem dX9_comes_5 : decode cX9_comes 5 = .ok (.iload_n 1, 1) := dop_27 (dn_w dw162_0 5 rfl)
theorem dX9_comes_6 : decode cX9_comes 6 = .ok (.if_icmp .ge 33, 3) := dop_162 (dn_w dw162_0 6 rfl) rfl
theorem dX9_comes_9 : decode cX9_comes 9 = .ok (.aload_n 0, 1) := dop_42 (dn_w dw162_0 9 rfl)
theorem dX9_comes_10 : decode cX9_comes 10 = .ok (.getfield 13, 3) := dop_180 (dn_w dw162_0 10 rfl) rfl
theorem dX9_comes_13 : decode cX9_comes 13 = .ok (.aload_n 0, 1) := dop_42 (dn_w dw162_0 13 rfl)
theorem dX9_comes_14 : decode cX9_comes 14 = .ok (.getfield 222, 3) := dop_180 (dn_w dw162_0 14 rfl) rfl
theorem dX9_comes_17 : decode cX9_comes 17 = .ok (.iaload, 1) := dop_46 (dn_w dw162_1 1 rfl)
theorem dX9_comes_18 : decode cX9_comes 18 = .ok (.bipush 40, 2) := dop_16 (dn_w dw162_1 2 rfl) rfl
theorem dX9_comes_20 : decode cX9_comes 20 = .ok (.if_icmp .ge 19, 3) := dop_162 (dn_w dw162_1 4 rfl) rfl
theorem dX9_comes_23 : decode cX9_comes 23 = .ok (.iload_n 2, 1) := dop_28 (dn_w dw162_1 7 rfl)
theorem dX9_comes_24 : decode cX9_comes 24 = .ok (.aload_n 0, 1) := dop_42 (dn_w dw162_1 8 rfl)
theorem dX9_comes_25 : decode cX9_comes 25 = .ok (.invokevirtual 238, 3) := dop_182 (dn_w dw162_1 9 rfl) rfl
theorem dX9_comes_28 : decode cX9_comes 28 = .ok (.invokestatic 244, 3) := dop_184 (dn_w dw162_1 12 rfl) rfl
theorem dX9_comes_31 : decode cX9_comes 31 = .ok (.iadd, 1) := dop_96 (dn_w dw162_1 15 rfl)
theorem dX9_comes_32 : decode cX9_comes 32 = .ok (.istore_n 2, 1) := dop_61 (dn_w dw162_2 0 rfl)
theorem dX9_comes_33 : decode cX9_comes 33 = .ok (.iinc 3 1, 3) := dop_132 (dn_w dw162_2 1 rfl) rfl
theorem dX9_comes_36 : decode cX9_comes 36 = .ok (.goto (-32), 3) := dop_167 (dn_w dw162_2 4 rfl) rfl
theorem dX9_comes_39 : decode cX9_comes 39 = .ok (.iload_n 2, 1) := dop_28 (dn_w dw162_2 7 rfl)
theorem dX9_comes_40 : decode cX9_comes 40 = .ok (.ireturn, 1) := dop_172 (dn_w dw162_2 8 rfl)
noncomputable def dt163_1 : List Nat := 42 :: 27 :: 182 :: 0 :: 250 :: 61 :: 42 :: 3 :: 181 :: 0 :: 222 :: 28 :: 172 :: []
noncomputable def dt163_0 : List Nat := 27 :: 3 :: 16 :: 20 :: 184 :: 0 :: 87 :: 154 :: 0 :: 5 :: 2 :: 172 :: 42 :: 182 :: 0 :: 247 :: dt163_1
theorem dw163_0 : dn cX9_there 0 = dt163_0 := by decide +kernel
theorem dw163_1 : dn cX9_there 16 = dt163_1 := dn_w dw163_0 16 rfl
theorem dX9_there_0 : decode cX9_there 0 = .ok (.iload_n 1, 1) := dop_27 (dn_w dw163_0 0 rfl)
theorem dX9_there_1 : decode cX9_there 1 = .ok (.iconst 0, 1) := dop_3 (dn_w dw163_0 1 rfl)
theorem dX9_there_2 : decode cX9_there 2 = .ok (.bipush 20, 2) := dop_16 (dn_w dw163_0 2 rfl) rfl
theorem dX9_there_4 : decode cX9_there 4 = .ok (.invokestatic 87, 3) := dop_184 (dn_w dw163_0 4 rfl) rfl
theorem dX9_there_7 : decode cX9_there 7 = .ok (.ifCond .ne 5, 3) := dop_154 (dn_w dw163_0 7 rfl) rfl
theorem dX9_there_10 : decode cX9_there 10 = .ok (.iconst (-1), 1) := dop_2 (dn_w dw163_0 10 rfl)
theorem dX9_there_11 : decode cX9_there 11 = .ok (.ireturn, 1) := dop_172 (dn_w dw163_0 11 rfl)
theorem dX9_there_12 : decode cX9_there 12 = .ok (.aload_n 0, 1) := dop_42 (dn_w dw163_0 12 rfl)
theorem dX9_there_13 : decode cX9_there 13 = .ok (.invokevirtual 247, 3) := dop_182 (dn_w dw163_0 13 rfl) rfl
theorem dX9_there_16 : decode cX9_there 16 = .ok (.aload_n 0, 1) := dop_42 (dn_w dw163_1 0 rfl)
theorem dX9_there_17 : decode cX9_there 17 = .ok (.iload_n 1, 1) := dop_27 (dn_w dw163_1 1 rfl)
theorem dX9_there_18 : decode cX9_there 18 = .ok (.invokevirtual 250, 3) := dop_182 (dn_w dw163_1 2 rfl) rfl
theorem dX9_there_21 : decode cX9_there 21 = .ok (.istore_n 2, 1) := dop_61 (dn_w dw163_1 5 rfl)
theorem dX9_there_22 : decode cX9_there 22 = .ok (.aload_n 0, 1) := dop_42 (dn_w dw163_1 6 rfl)
theorem dX9_there_23 : decode cX9_there 23 = .ok (.iconst 0, 1) := dop_3 (dn_w dw163_1 7 rfl)
theorem dX9_there_24 : decode cX9_there 24 = .ok (.putfield 222, 3) := dop_181 (dn_w dw163_1 8 rfl) rfl
theorem dX9_there_27 : decode cX9_there 27 = .ok (.iload_n 2, 1) := dop_28 (dn_w dw163_1 11 rfl)
theorem dX9_there_28 : decode cX9_there 28 = .ok (.ireturn, 1) := dop_172 (dn_w dw163_1 12 rfl)
noncomputable def dt164_8 : List Nat := 5 :: 21 :: 5 :: 172 :: []
noncomputable def dt164_7 : List Nat := 54 :: 4 :: 132 :: 6 :: 1 :: 167 :: 255 :: 178 :: 29 :: 154 :: 0 :: 8 :: 21 :: 4 :: 167 :: 0 :: dt164_8
noncomputable def dt164_6 : List Nat := 0 :: 244 :: 21 :: 4 :: 184 :: 0 :: 244 :: 162 :: 0 :: 11 :: 21 :: 8 :: 54 :: 5 :: 21 :: 6 :: dt164_7
noncomputable def dt164_5 : List Nat := 8 :: 21 :: 5 :: 163 :: 0 :: 23 :: 21 :: 8 :: 21 :: 5 :: 160 :: 0 :: 24 :: 21 :: 6 :: 184 :: dt164_6
noncomputable def dt164_4 : List Nat := 241 :: 54 :: 7 :: 42 :: 28 :: 182 :: 0 :: 250 :: 54 :: 8 :: 42 :: 3 :: 181 :: 0 :: 222 :: 21 :: dt164_5
noncomputable def dt164_3 : List Nat := 184 :: 0 :: 244 :: 27 :: 163 :: 0 :: 62 :: 42 :: 182 :: 0 :: 247 :: 42 :: 21 :: 6 :: 182 :: 0 :: dt164_4
noncomputable def dt164_2 : List Nat := 4 :: 2 :: 54 :: 5 :: 3 :: 54 :: 6 :: 21 :: 6 :: 16 :: 64 :: 162 :: 0 :: 77 :: 21 :: 6 :: dt164_3
noncomputable def dt164_1 : List Nat := 153 :: 0 :: 12 :: 29 :: 3 :: 4 :: 184 :: 0 :: 87 :: 154 :: 0 :: 5 :: 2 :: 172 :: 3 :: 54 :: dt164_2
noncomputable def dt164_0 : List Nat := 27 :: 4 :: 6 :: 184 :: 0 :: 87 :: 153 :: 0 :: 22 :: 28 :: 3 :: 16 :: 20 :: 184 :: 0 :: 87 :: dt164_1
theorem dw164_0 : dn cX9_round 0 = dt164_0 := by decide +kernel
theorem dw164_1 : dn cX9_round 16 = dt164_1 := dn_w dw164_0 16 rfl
theorem dw164_2 : dn cX9_round 32 = dt164_2 := dn_w dw164_1 16 rfl
theorem dw164_3 : dn cX9_round 48 = dt164_3 := dn_w dw164_2 16 rfl
theorem dw164_4 : dn cX9_round 64 = dt164_4 := dn_w dw164_3 16 rfl
theorem dw164_5 : dn cX9_round 80 = dt164_5 := dn_w dw164_4 16 rfl
theorem dw164_6 : dn cX9_round 96 = dt164_6 := dn_w dw164_5 16 rfl
theorem dw164_7 : dn cX9_round 112 = dt164_7 := dn_w dw164_6 16 rfl
theorem dw164_8 : dn cX9_round 128 = dt164_8 := dn_w dw164_7 16 rfl
theorem dX9_round_0 : decode cX9_round 0 = .ok (.iload_n 1, 1) := dop_27 (dn_w dw164_0 0 rfl)
theorem dX9_round_1 : decode cX9_round 1 = .ok (.iconst 1, 1) := dop_4 (dn_w dw164_0 1 rfl)
theorem dX9_round_2 : decode cX9_round 2 = .ok (.iconst 3, 1) := dop_6 (dn_w dw164_0 2 rfl)
theorem dX9_round_3 : decode cX9_round 3 = .ok (.invokestatic 87, 3) := dop_184 (dn_w dw164_0 3 rfl) rfl
theorem dX9_round_6 : decode cX9_round 6 = .ok (.ifCond .eq 22, 3) := dop_153 (dn_w dw164_0 6 rfl) rfl
theorem dX9_round_9 : decode cX9_round 9 = .ok (.iload_n 2, 1) := dop_28 (dn_w dw164_0 9 rfl)
theorem dX9_round_10 : decode cX9_round 10 = .ok (.iconst 0, 1) := dop_3 (dn_w dw164_0 10 rfl)
theorem dX9_round_11 : decode cX9_round 11 = .ok (.bipush 20, 2) := dop_16 (dn_w dw164_0 11 rfl) rfl
theorem dX9_round_13 : decode cX9_round 13 = .ok (.invokestatic 87, 3) := dop_184 (dn_w dw164_0 13 rfl) rfl
theorem dX9_round_16 : decode cX9_round 16 = .ok (.ifCond .eq 12, 3) := dop_153 (dn_w dw164_1 0 rfl) rfl
theorem dX9_round_19 : decode cX9_round 19 = .ok (.iload_n 3, 1) := dop_29 (dn_w dw164_1 3 rfl)
theorem dX9_round_20 : decode cX9_round 20 = .ok (.iconst 0, 1) := dop_3 (dn_w dw164_1 4 rfl)
theorem dX9_round_21 : decode cX9_round 21 = .ok (.iconst 1, 1) := dop_4 (dn_w dw164_1 5 rfl)
theorem dX9_round_22 : decode cX9_round 22 = .ok (.invokestatic 87, 3) := dop_184 (dn_w dw164_1 6 rfl) rfl
theorem dX9_round_25 : decode cX9_round 25 = .ok (.ifCond .ne 5, 3) := dop_154 (dn_w dw164_1 9 rfl) rfl
theorem dX9_round_28 : decode cX9_round 28 = .ok (.iconst (-1), 1) := dop_2 (dn_w dw164_1 12 rfl)
theorem dX9_round_29 : decode cX9_round 29 = .ok (.ireturn, 1) := dop_172 (dn_w dw164_1 13 rfl)
theorem dX9_round_30 : decode cX9_round 30 = .ok (.iconst 0, 1) := dop_3 (dn_w dw164_1 14 rfl)
theorem dX9_round_31 : decode cX9_round 31 = .ok (.istore 4, 2) := dop_54 (dn_w dw164_1 15 rfl)
theorem dX9_round_33 : decode cX9_round 33 = .ok (.iconst (-1), 1) := dop_2 (dn_w dw164_2 1 rfl)
theorem dX9_round_34 : decode cX9_round 34 = .ok (.istore 5, 2) := dop_54 (dn_w dw164_2 2 rfl)
theorem dX9_round_36 : decode cX9_round 36 = .ok (.iconst 0, 1) := dop_3 (dn_w dw164_2 4 rfl)
theorem dX9_round_37 : decode cX9_round 37 = .ok (.istore 6, 2) := dop_54 (dn_w dw164_2 5 rfl)
theorem dX9_round_39 : decode cX9_round 39 = .ok (.iload 6, 2) := dop_21 (dn_w dw164_2 7 rfl)
theorem dX9_round_41 : decode cX9_round 41 = .ok (.bipush 64, 2) := dop_16 (dn_w dw164_2 9 rfl) rfl
theorem dX9_round_43 : decode cX9_round 43 = .ok (.if_icmp .ge 77, 3) := dop_162 (dn_w dw164_2 11 rfl) rfl
theorem dX9_round_46 : decode cX9_round 46 = .ok (.iload 6, 2) := dop_21 (dn_w dw164_2 14 rfl)
theorem dX9_round_48 : decode cX9_round 48 = .ok (.invokestatic 244, 3) := dop_184 (dn_w dw164_3 0 rfl) rfl
theorem dX9_round_51 : decode cX9_round 51 = .ok (.iload_n 1, 1) := dop_27 (dn_w dw164_3 3 rfl)
theorem dX9_round_52 : decode cX9_round 52 = .ok (.if_icmp .gt 62, 3) := dop_163 (dn_w dw164_3 4 rfl) rfl
theorem dX9_round_55 : decode cX9_round 55 = .ok (.aload_n 0, 1) := dop_42 (dn_w dw164_3 7 rfl)
theorem dX9_round_56 : decode cX9_round 56 = .ok (.invokevirtual 247, 3) := dop_182 (dn_w dw164_3 8 rfl) rfl
theorem dX9_round_59 : decode cX9_round 59 = .ok (.aload_n 0, 1) := dop_42 (dn_w dw164_3 11 rfl)
theorem dX9_round_60 : decode cX9_round 60 = .ok (.iload 6, 2) := dop_21 (dn_w dw164_3 12 rfl)
theorem dX9_round_62 : decode cX9_round 62 = .ok (.invokevirtual 241, 3) := dop_182 (dn_w dw164_3 14 rfl) rfl
theorem dX9_round_65 : decode cX9_round 65 = .ok (.istore 7, 2) := dop_54 (dn_w dw164_4 1 rfl)
theorem dX9_round_67 : decode cX9_round 67 = .ok (.aload_n 0, 1) := dop_42 (dn_w dw164_4 3 rfl)
theorem dX9_round_68 : decode cX9_round 68 = .ok (.iload_n 2, 1) := dop_28 (dn_w dw164_4 4 rfl)
theorem dX9_round_69 : decode cX9_round 69 = .ok (.invokevirtual 250, 3) := dop_182 (dn_w dw164_4 5 rfl) rfl
theorem dX9_round_72 : decode cX9_round 72 = .ok (.istore 8, 2) := dop_54 (dn_w dw164_4 8 rfl)
theorem dX9_round_74 : decode cX9_round 74 = .ok (.aload_n 0, 1) := dop_42 (dn_w dw164_4 10 rfl)
theorem dX9_round_75 : decode cX9_round 75 = .ok (.iconst 0, 1) := dop_3 (dn_w dw164_4 11 rfl)
theorem dX9_round_76 : decode cX9_round 76 = .ok (.putfield 222, 3) := dop_181 (dn_w dw164_4 12 rfl) rfl
theorem dX9_round_79 : decode cX9_round 79 = .ok (.iload 8, 2) := dop_21 (dn_w dw164_4 15 rfl)
theorem dX9_round_81 : decode cX9_round 81 = .ok (.iload 5, 2) := dop_21 (dn_w dw164_5 1 rfl)
theorem dX9_round_83 : decode cX9_round 83 = .ok (.if_icmp .gt 23, 3) := dop_163 (dn_w dw164_5 3 rfl) rfl
theorem dX9_round_86 : decode cX9_round 86 = .ok (.iload 8, 2) := dop_21 (dn_w dw164_5 6 rfl)
theorem dX9_round_88 : decode cX9_round 88 = .ok (.iload 5, 2) := dop_21 (dn_w dw164_5 8 rfl)
theorem dX9_round_90 : decode cX9_round 90 = .ok (.if_icmp .ne 24, 3) := dop_160 (dn_w dw164_5 10 rfl) rfl
theorem dX9_round_93 : decode cX9_round 93 = .ok (.iload 6, 2) := dop_21 (dn_w dw164_5 13 rfl)
theorem dX9_round_95 : decode cX9_round 95 = .ok (.invokestatic 244, 3) := dop_184 (dn_w dw164_5 15 rfl) rfl
theorem dX9_round_98 : decode cX9_round 98 = .ok (.iload 4, 2) := dop_21 (dn_w dw164_6 2 rfl)
theorem dX9_round_100 : decode cX9_round 100 = .ok (.invokestatic 244, 3) := dop_184 (dn_w dw164_6 4 rfl) rfl
theorem dX9_round_103 : decode cX9_round 103 = .ok (.if_icmp .ge 11, 3) := dop_162 (dn_w dw164_6 7 rfl) rfl
theorem dX9_round_106 : decode cX9_round 106 = .ok (.iload 8, 2) := dop_21 (dn_w dw164_6 10 rfl)
theorem dX9_round_108 : decode cX9_round 108 = .ok (.istore 5, 2) := dop_54 (dn_w dw164_6 12 rfl)
theorem dX9_round_110 : decode cX9_round 110 = .ok (.iload 6, 2) := dop_21 (dn_w dw164_6 14 rfl)
theorem dX9_round_112 : decode cX9_round 112 = .ok (.istore 4, 2) := dop_54 (dn_w dw164_7 0 rfl)
theorem dX9_round_114 : decode cX9_round 114 = .ok (.iinc 6 1, 3) := dop_132 (dn_w dw164_7 2 rfl) rfl
theorem dX9_round_117 : decode cX9_round 117 = .ok (.goto (-78), 3) := dop_167 (dn_w dw164_7 5 rfl) rfl
theorem dX9_round_120 : decode cX9_round 120 = .ok (.iload_n 3, 1) := dop_29 (dn_w dw164_7 8 rfl)
theorem dX9_round_121 : decode cX9_round 121 = .ok (.ifCond .ne 8, 3) := dop_154 (dn_w dw164_7 9 rfl) rfl
theorem dX9_round_124 : decode cX9_round 124 = .ok (.iload 4, 2) := dop_21 (dn_w dw164_7 12 rfl)
theorem dX9_round_126 : decode cX9_round 126 = .ok (.goto 5, 3) := dop_167 (dn_w dw164_7 14 rfl) rfl
theorem dX9_round_129 : decode cX9_round 129 = .ok (.iload 5, 2) := dop_21 (dn_w dw164_8 1 rfl)
theorem dX9_round_131 : decode cX9_round 131 = .ok (.ireturn, 1) := dop_172 (dn_w dw164_8 3 rfl)
noncomputable def dt165_7 : List Nat := 181 :: 0 :: 222 :: 28 :: 172 :: []
noncomputable def dt165_6 : List Nat := 0 :: 222 :: 46 :: 4 :: 100 :: 167 :: 0 :: 5 :: 16 :: 253 :: 61 :: 167 :: 255 :: 193 :: 42 :: 3 :: dt165_7
noncomputable def dt165_5 : List Nat := 46 :: 42 :: 180 :: 0 :: 25 :: 4 :: 46 :: 161 :: 0 :: 17 :: 42 :: 180 :: 0 :: 13 :: 42 :: 180 :: dt165_6
noncomputable def dt165_4 : List Nat := 0 :: 238 :: 62 :: 42 :: 180 :: 0 :: 13 :: 42 :: 180 :: 0 :: 222 :: 16 :: 17 :: 96 :: 27 :: 96 :: dt165_5
noncomputable def dt165_3 : List Nat := 42 :: 180 :: 0 :: 222 :: 46 :: 16 :: 40 :: 162 :: 0 :: 55 :: 28 :: 156 :: 0 :: 51 :: 42 :: 182 :: dt165_4
noncomputable def dt165_2 : List Nat := 3 :: 46 :: 4 :: 100 :: 172 :: 42 :: 182 :: 0 :: 247 :: 16 :: 253 :: 61 :: 42 :: 180 :: 0 :: 13 :: dt165_3
noncomputable def dt165_1 : List Nat := 27 :: 96 :: 46 :: 42 :: 180 :: 0 :: 25 :: 4 :: 46 :: 161 :: 0 :: 12 :: 42 :: 180 :: 0 :: 13 :: dt165_2
noncomputable def dt165_0 : List Nat := 42 :: 27 :: 182 :: 0 :: 206 :: 154 :: 0 :: 5 :: 2 :: 172 :: 42 :: 180 :: 0 :: 13 :: 16 :: 17 :: dt165_1
theorem dw165_0 : dn cX9_good 0 = dt165_0 := by decide +kernel
theorem dw165_1 : dn cX9_good 16 = dt165_1 := dn_w dw165_0 16 rfl
theorem dw165_2 : dn cX9_good 32 = dt165_2 := dn_w dw165_1 16 rfl
theorem dw165_3 : dn cX9_good 48 = dt165_3 := dn_w dw165_2 16 rfl
theorem dw165_4 : dn cX9_good 64 = dt165_4 := dn_w dw165_3 16 rfl
theorem dw165_5 : dn cX9_good 80 = dt165_5 := dn_w dw165_4 16 rfl
theorem dw165_6 : dn cX9_good 96 = dt165_6 := dn_w dw165_5 16 rfl
theorem dw165_7 : dn cX9_good 112 = dt165_7 := dn_w dw165_6 16 rfl
theorem dX9_good_0 : decode cX9_good 0 = .ok (.aload_n 0, 1) := dop_42 (dn_w dw165_0 0 rfl)
theorem dX9_good_1 : decode cX9_good 1 = .ok (.iload_n 1, 1) := dop_27 (dn_w dw165_0 1 rfl)
theorem dX9_good_2 : decode cX9_good 2 = .ok (.invokevirtual 206, 3) := dop_182 (dn_w dw165_0 2 rfl) rfl
theorem dX9_good_5 : decode cX9_good 5 = .ok (.ifCond .ne 5, 3) := dop_154 (dn_w dw165_0 5 rfl) rfl
theorem dX9_good_8 : decode cX9_good 8 = .ok (.iconst (-1), 1) := dop_2 (dn_w dw165_0 8 rfl)
theorem dX9_good_9 : decode cX9_good 9 = .ok (.ireturn, 1) := dop_172 (dn_w dw165_0 9 rfl)
theorem dX9_good_10 : decode cX9_good 10 = .ok (.aload_n 0, 1) := dop_42 (dn_w dw165_0 10 rfl)
theorem dX9_good_11 : decode cX9_good 11 = .ok (.getfield 13, 3) := dop_180 (dn_w dw165_0 11 rfl) rfl
theorem dX9_good_14 : decode cX9_good 14 = .ok (.bipush 17, 2) := dop_16 (dn_w dw165_0 14 rfl) rfl
theorem dX9_good_16 : decode cX9_good 16 = .ok (.iload_n 1, 1) := dop_27 (dn_w dw165_1 0 rfl)
theorem dX9_good_17 : decode cX9_good 17 = .ok (.iadd, 1) := dop_96 (dn_w dw165_1 1 rfl)
theorem dX9_good_18 : decode cX9_good 18 = .ok (.iaload, 1) := dop_46 (dn_w dw165_1 2 rfl)
theorem dX9_good_19 : decode cX9_good 19 = .ok (.aload_n 0, 1) := dop_42 (dn_w dw165_1 3 rfl)
theorem dX9_good_20 : decode cX9_good 20 = .ok (.getfield 25, 3) := dop_180 (dn_w dw165_1 4 rfl) rfl
theorem dX9_good_23 : decode cX9_good 23 = .ok (.iconst 1, 1) := dop_4 (dn_w dw165_1 7 rfl)
theorem dX9_good_24 : decode cX9_good 24 = .ok (.iaload, 1) := dop_46 (dn_w dw165_1 8 rfl)
theorem dX9_good_25 : decode cX9_good 25 = .ok (.if_icmp .lt 12, 3) := dop_161 (dn_w dw165_1 9 rfl) rfl
theorem dX9_good_28 : decode cX9_good 28 = .ok (.aload_n 0, 1) := dop_42 (dn_w dw165_1 12 rfl)
theorem dX9_good_29 : decode cX9_good 29 = .ok (.getfield 13, 3) := dop_180 (dn_w dw165_1 13 rfl) rfl
theorem dX9_good_32 : decode cX9_good 32 = .ok (.iconst 0, 1) := dop_3 (dn_w dw165_2 0 rfl)
theorem dX9_good_33 : decode cX9_good 33 = .ok (.iaload, 1) := dop_46 (dn_w dw165_2 1 rfl)
theorem dX9_good_34 : decode cX9_good 34 = .ok (.iconst 1, 1) := dop_4 (dn_w dw165_2 2 rfl)
theorem dX9_good_35 : decode cX9_good 35 = .ok (.isub, 1) := dop_100 (dn_w dw165_2 3 rfl)
theorem dX9_good_36 : decode cX9_good 36 = .ok (.ireturn, 1) := dop_172 (dn_w dw165_2 4 rfl)
theorem dX9_good_37 : decode cX9_good 37 = .ok (.aload_n 0, 1) := dop_42 (dn_w dw165_2 5 rfl)
theorem dX9_good_38 : decode cX9_good 38 = .ok (.invokevirtual 247, 3) := dop_182 (dn_w dw165_2 6 rfl) rfl
theorem dX9_good_41 : decode cX9_good 41 = .ok (.bipush (-3), 2) := dop_16 (dn_w dw165_2 9 rfl) rfl
theorem dX9_good_43 : decode cX9_good 43 = .ok (.istore_n 2, 1) := dop_61 (dn_w dw165_2 11 rfl)
theorem dX9_good_44 : decode cX9_good 44 = .ok (.aload_n 0, 1) := dop_42 (dn_w dw165_2 12 rfl)
theorem dX9_good_45 : decode cX9_good 45 = .ok (.getfield 13, 3) := dop_180 (dn_w dw165_2 13 rfl) rfl
theorem dX9_good_48 : decode cX9_good 48 = .ok (.aload_n 0, 1) := dop_42 (dn_w dw165_3 0 rfl)
theorem dX9_good_49 : decode cX9_good 49 = .ok (.getfield 222, 3) := dop_180 (dn_w dw165_3 1 rfl) rfl
theorem dX9_good_52 : decode cX9_good 52 = .ok (.iaload, 1) := dop_46 (dn_w dw165_3 4 rfl)
theorem dX9_good_53 : decode cX9_good 53 = .ok (.bipush 40, 2) := dop_16 (dn_w dw165_3 5 rfl) rfl
theorem dX9_good_55 : decode cX9_good 55 = .ok (.if_icmp .ge 55, 3) := dop_162 (dn_w dw165_3 7 rfl) rfl
theorem dX9_good_58 : decode cX9_good 58 = .ok (.iload_n 2, 1) := dop_28 (dn_w dw165_3 10 rfl)
theorem dX9_good_59 : decode cX9_good 59 = .ok (.ifCond .ge 51, 3) := dop_156 (dn_w dw165_3 11 rfl) rfl
theorem dX9_good_62 : decode cX9_good 62 = .ok (.aload_n 0, 1) := dop_42 (dn_w dw165_3 14 rfl)
theorem dX9_good_63 : decode cX9_good 63 = .ok (.invokevirtual 238, 3) := dop_182 (dn_w dw165_3 15 rfl) rfl
theorem dX9_good_66 : decode cX9_good 66 = .ok (.istore_n 3, 1) := dop_62 (dn_w dw165_4 2 rfl)
theorem dX9_good_67 : decode cX9_good 67 = .ok (.aload_n 0, 1) := dop_42 (dn_w dw165_4 3 rfl)
theorem dX9_good_68 : decode cX9_good 68 = .ok (.getfield 13, 3) := dop_180 (dn_w dw165_4 4 rfl) rfl
theorem dX9_good_71 : decode cX9_good 71 = .ok (.aload_n 0, 1) := dop_42 (dn_w dw165_4 7 rfl)
theorem dX9_good_72 : decode cX9_good 72 = .ok (.getfield 222, 3) := dop_180 (dn_w dw165_4 8 rfl) rfl
theorem dX9_good_75 : decode cX9_good 75 = .ok (.bipush 17, 2) := dop_16 (dn_w dw165_4 11 rfl) rfl
theorem dX9_good_77 : decode cX9_good 77 = .ok (.iadd, 1) := dop_96 (dn_w dw165_4 13 rfl)
theorem dX9_good_78 : decode cX9_good 78 = .ok (.iload_n 1, 1) := dop_27 (dn_w dw165_4 14 rfl)
theorem dX9_good_79 : decode cX9_good 79 = .ok (.iadd, 1) := dop_96 (dn_w dw165_4 15 rfl)
theorem dX9_good_80 : decode cX9_good 80 = .ok (.iaload, 1) := dop_46 (dn_w dw165_5 0 rfl)
theorem dX9_good_81 : decode cX9_good 81 = .ok (.aload_n 0, 1) := dop_42 (dn_w dw165_5 1 rfl)
theorem dX9_good_82 : decode cX9_good 82 = .ok (.getfield 25, 3) := dop_180 (dn_w dw165_5 2 rfl) rfl
theorem dX9_good_85 : decode cX9_good 85 = .ok (.iconst 1, 1) := dop_4 (dn_w dw165_5 5 rfl)
theorem dX9_good_86 : decode cX9_good 86 = .ok (.iaload, 1) := dop_46 (dn_w dw165_5 6 rfl)
theorem dX9_good_87 : decode cX9_good 87 = .ok (.if_icmp .lt 17, 3) := dop_161 (dn_w dw165_5 7 rfl) rfl
theorem dX9_good_90 : decode cX9_good 90 = .ok (.aload_n 0, 1) := dop_42 (dn_w dw165_5 10 rfl)
theorem dX9_good_91 : decode cX9_good 91 = .ok (.getfield 13, 3) := dop_180 (dn_w dw165_5 11 rfl) rfl
theorem dX9_good_94 : decode cX9_good 94 = .ok (.aload_n 0, 1) := dop_42 (dn_w dw165_5 14 rfl)
theorem dX9_good_95 : decode cX9_good 95 = .ok (.getfield 222, 3) := dop_180 (dn_w dw165_5 15 rfl) rfl
theorem dX9_good_98 : decode cX9_good 98 = .ok (.iaload, 1) := dop_46 (dn_w dw165_6 2 rfl)
theorem dX9_good_99 : decode cX9_good 99 = .ok (.iconst 1, 1) := dop_4 (dn_w dw165_6 3 rfl)
theorem dX9_good_100 : decode cX9_good 100 = .ok (.isub, 1) := dop_100 (dn_w dw165_6 4 rfl)
theorem dX9_good_101 : decode cX9_good 101 = .ok (.goto 5, 3) := dop_167 (dn_w dw165_6 5 rfl) rfl
theorem dX9_good_104 : decode cX9_good 104 = .ok (.bipush (-3), 2) := dop_16 (dn_w dw165_6 8 rfl) rfl
theorem dX9_good_106 : decode cX9_good 106 = .ok (.istore_n 2, 1) := dop_61 (dn_w dw165_6 10 rfl)
theorem dX9_good_107 : decode cX9_good 107 = .ok (.goto (-63), 3) := dop_167 (dn_w dw165_6 11 rfl) rfl
theorem dX9_good_110 : decode cX9_good 110 = .ok (.aload_n 0, 1) := dop_42 (dn_w dw165_6 14 rfl)
theorem dX9_good_111 : decode cX9_good 111 = .ok (.iconst 0, 1) := dop_3 (dn_w dw165_6 15 rfl)
theorem dX9_good_112 : decode cX9_good 112 = .ok (.putfield 222, 3) := dop_181 (dn_w dw165_7 0 rfl) rfl
theorem dX9_good_115 : decode cX9_good 115 = .ok (.iload_n 2, 1) := dop_28 (dn_w dw165_7 3 rfl)
theorem dX9_good_116 : decode cX9_good 116 = .ok (.ireturn, 1) := dop_172 (dn_w dw165_7 4 rfl)
noncomputable def dt166_6 : List Nat := 21 :: 4 :: 172 :: []
noncomputable def dt166_5 : List Nat := 4 :: 126 :: 96 :: 54 :: 4 :: 132 :: 5 :: 1 :: 167 :: 255 :: 211 :: 42 :: 3 :: 181 :: 0 :: 222 :: dt166_6
noncomputable def dt166_4 : List Nat := 182 :: 0 :: 238 :: 54 :: 6 :: 21 :: 4 :: 21 :: 6 :: 27 :: 122 :: 21 :: 6 :: 28 :: 122 :: 126 :: dt166_5
noncomputable def dt166_3 : List Nat := 45 :: 42 :: 180 :: 0 :: 13 :: 42 :: 180 :: 0 :: 222 :: 46 :: 16 :: 40 :: 162 :: 0 :: 31 :: 42 :: dt166_4
noncomputable def dt166_2 : List Nat := 172 :: 42 :: 182 :: 0 :: 247 :: 3 :: 54 :: 4 :: 3 :: 54 :: 5 :: 21 :: 5 :: 29 :: 162 :: 0 :: dt166_3
noncomputable def dt166_1 : List Nat := 27 :: 28 :: 159 :: 0 :: 13 :: 29 :: 3 :: 16 :: 20 :: 184 :: 0 :: 87 :: 154 :: 0 :: 5 :: 2 :: dt166_2
noncomputable def dt166_0 : List Nat := 42 :: 27 :: 182 :: 0 :: 206 :: 153 :: 0 :: 26 :: 42 :: 28 :: 182 :: 0 :: 206 :: 153 :: 0 :: 18 :: dt166_1
theorem dw166_0 : dn cX9_meet 0 = dt166_0 := by decide +kernel
theorem dw166_1 : dn cX9_meet 16 = dt166_1 := dn_w dw166_0 16 rfl
theorem dw166_2 : dn cX9_meet 32 = dt166_2 := dn_w dw166_1 16 rfl
theorem dw166_3 : dn cX9_meet 48 = dt166_3 := dn_w dw166_2 16 rfl
theorem dw166_4 : dn cX9_meet 64 = dt166_4 := dn_w dw166_3 16 rfl
theorem dw166_5 : dn cX9_meet 80 = dt166_5 := dn_w dw166_4 16 rfl
theorem dw166_6 : dn cX9_meet 96 = dt166_6 := dn_w dw166_5 16 rfl
theorem dX9_meet_0 : decode cX9_meet 0 = .ok (.aload_n 0, 1) := dop_42 (dn_w dw166_0 0 rfl)
theorem dX9_meet_1 : decode cX9_meet 1 = .ok (.iload_n 1, 1) := dop_27 (dn_w dw166_0 1 rfl)
theorem dX9_meet_2 : decode cX9_meet 2 = .ok (.invokevirtual 206, 3) := dop_182 (dn_w dw166_0 2 rfl) rfl
theorem dX9_meet_5 : decode cX9_meet 5 = .ok (.ifCond .eq 26, 3) := dop_153 (dn_w dw166_0 5 rfl) rfl
theorem dX9_meet_8 : decode cX9_meet 8 = .ok (.aload_n 0, 1) := dop_42 (dn_w dw166_0 8 rfl)
theorem dX9_meet_9 : decode cX9_meet 9 = .ok (.iload_n 2, 1) := dop_28 (dn_w dw166_0 9 rfl)
theorem dX9_meet_10 : decode cX9_meet 10 = .ok (.invokevirtual 206, 3) := dop_182 (dn_w dw166_0 10 rfl) rfl
theorem dX9_meet_13 : decode cX9_meet 13 = .ok (.ifCond .eq 18, 3) := dop_153 (dn_w dw166_0 13 rfl) rfl
theorem dX9_meet_16 : decode cX9_meet 16 = .ok (.iload_n 1, 1) := dop_27 (dn_w dw166_1 0 rfl)
theorem dX9_meet_17 : decode cX9_meet 17 = .ok (.iload_n 2, 1) := dop_28 (dn_w dw166_1 1 rfl)
theorem dX9_meet_18 : decode cX9_meet 18 = .ok (.if_icmp .eq 13, 3) := dop_159 (dn_w dw166_1 2 rfl) rfl
theorem dX9_meet_21 : decode cX9_meet 21 = .ok (.iload_n 3, 1) := dop_29 (dn_w dw166_1 5 rfl)
theorem dX9_meet_22 : decode cX9_meet 22 = .ok (.iconst 0, 1) := dop_3 (dn_w dw166_1 6 rfl)
theorem dX9_meet_23 : decode cX9_meet 23 = .ok (.bipush 20, 2) := dop_16 (dn_w dw166_1 7 rfl) rfl
theorem dX9_meet_25 : decode cX9_meet 25 = .ok (.invokestatic 87, 3) := dop_184 (dn_w dw166_1 9 rfl) rfl
theorem dX9_meet_28 : decode cX9_meet 28 = .ok (.ifCond .ne 5, 3) := dop_154 (dn_w dw166_1 12 rfl) rfl
theorem dX9_meet_31 : decode cX9_meet 31 = .ok (.iconst (-1), 1) := dop_2 (dn_w dw166_1 15 rfl)
theorem dX9_meet_32 : decode cX9_meet 32 = .ok (.ireturn, 1) := dop_172 (dn_w dw166_2 0 rfl)
theorem dX9_meet_33 : decode cX9_meet 33 = .ok (.aload_n 0, 1) := dop_42 (dn_w dw166_2 1 rfl)
theorem dX9_meet_34 : decode cX9_meet 34 = .ok (.invokevirtual 247, 3) := dop_182 (dn_w dw166_2 2 rfl) rfl
theorem dX9_meet_37 : decode cX9_meet 37 = .ok (.iconst 0, 1) := dop_3 (dn_w dw166_2 5 rfl)
theorem dX9_meet_38 : decode cX9_meet 38 = .ok (.istore 4, 2) := dop_54 (dn_w dw166_2 6 rfl)
theorem dX9_meet_40 : decode cX9_meet 40 = .ok (.iconst 0, 1) := dop_3 (dn_w dw166_2 8 rfl)
theorem dX9_meet_41 : decode cX9_meet 41 = .ok (.istore 5, 2) := dop_54 (dn_w dw166_2 9 rfl)
theorem dX9_meet_43 : decode cX9_meet 43 = .ok (.iload 5, 2) := dop_21 (dn_w dw166_2 11 rfl)
theorem dX9_meet_45 : decode cX9_meet 45 = .ok (.iload_n 3, 1) := dop_29 (dn_w dw166_2 13 rfl)
theorem dX9_meet_46 : decode cX9_meet 46 = .ok (.if_icmp .ge 45, 3) := dop_162 (dn_w dw166_2 14 rfl) rfl
theorem dX9_meet_49 : decode cX9_meet 49 = .ok (.aload_n 0, 1) := dop_42 (dn_w dw166_3 1 rfl)
theorem dX9_meet_50 : decode cX9_meet 50 = .ok (.getfield 13, 3) := dop_180 (dn_w dw166_3 2 rfl) rfl
theorem dX9_meet_53 : decode cX9_meet 53 = .ok (.aload_n 0, 1) := dop_42 (dn_w dw166_3 5 rfl)
theorem dX9_meet_54 : decode cX9_meet 54 = .ok (.getfield 222, 3) := dop_180 (dn_w dw166_3 6 rfl) rfl
theorem dX9_meet_57 : decode cX9_meet 57 = .ok (.iaload, 1) := dop_46 (dn_w dw166_3 9 rfl)
theorem dX9_meet_58 : decode cX9_meet 58 = .ok (.bipush 40, 2) := dop_16 (dn_w dw166_3 10 rfl) rfl
theorem dX9_meet_60 : decode cX9_meet 60 = .ok (.if_icmp .ge 31, 3) := dop_162 (dn_w dw166_3 12 rfl) rfl
theorem dX9_meet_63 : decode cX9_meet 63 = .ok (.aload_n 0, 1) := dop_42 (dn_w dw166_3 15 rfl)
theorem dX9_meet_64 : decode cX9_meet 64 = .ok (.invokevirtual 238, 3) := dop_182 (dn_w dw166_4 0 rfl) rfl
theorem dX9_meet_67 : decode cX9_meet 67 = .ok (.istore 6, 2) := dop_54 (dn_w dw166_4 3 rfl)
theorem dX9_meet_69 : decode cX9_meet 69 = .ok (.iload 4, 2) := dop_21 (dn_w dw166_4 5 rfl)
theorem dX9_meet_71 : decode cX9_meet 71 = .ok (.iload 6, 2) := dop_21 (dn_w dw166_4 7 rfl)
theorem dX9_meet_73 : decode cX9_meet 73 = .ok (.iload_n 1, 1) := dop_27 (dn_w dw166_4 9 rfl)
theorem dX9_meet_74 : decode cX9_meet 74 = .ok (.ishr, 1) := dop_122 (dn_w dw166_4 10 rfl)
theorem dX9_meet_75 : decode cX9_meet 75 = .ok (.iload 6, 2) := dop_21 (dn_w dw166_4 11 rfl)
theorem dX9_meet_77 : decode cX9_meet 77 = .ok (.iload_n 2, 1) := dop_28 (dn_w dw166_4 13 rfl)
theorem dX9_meet_78 : decode cX9_meet 78 = .ok (.ishr, 1) := dop_122 (dn_w dw166_4 14 rfl)
theorem dX9_meet_79 : decode cX9_meet 79 = .ok (.iand, 1) := dop_126 (dn_w dw166_4 15 rfl)
theorem dX9_meet_80 : decode cX9_meet 80 = .ok (.iconst 1, 1) := dop_4 (dn_w dw166_5 0 rfl)
theorem dX9_meet_81 : decode cX9_meet 81 = .ok (.iand, 1) := dop_126 (dn_w dw166_5 1 rfl)
theorem dX9_meet_82 : decode cX9_meet 82 = .ok (.iadd, 1) := dop_96 (dn_w dw166_5 2 rfl)
theorem dX9_meet_83 : decode cX9_meet 83 = .ok (.istore 4, 2) := dop_54 (dn_w dw166_5 3 rfl)
theorem dX9_meet_85 : decode cX9_meet 85 = .ok (.iinc 5 1, 3) := dop_132 (dn_w dw166_5 5 rfl) rfl
theorem dX9_meet_88 : decode cX9_meet 88 = .ok (.goto (-45), 3) := dop_167 (dn_w dw166_5 8 rfl) rfl
theorem dX9_meet_91 : decode cX9_meet 91 = .ok (.aload_n 0, 1) := dop_42 (dn_w dw166_5 11 rfl)
theorem dX9_meet_92 : decode cX9_meet 92 = .ok (.iconst 0, 1) := dop_3 (dn_w dw166_5 12 rfl)
theorem dX9_meet_93 : decode cX9_meet 93 = .ok (.putfield 222, 3) := dop_181 (dn_w dw166_5 13 rfl) rfl
theorem dX9_meet_96 : decode cX9_meet 96 = .ok (.iload 4, 2) := dop_21 (dn_w dw166_6 0 rfl)
theorem dX9_meet_98 : decode cX9_meet 98 = .ok (.ireturn, 1) := dop_172 (dn_w dw166_6 2 rfl)
noncomputable def dt167_6 : List Nat := 255 :: 199 :: 42 :: 3 :: 181 :: 0 :: 222 :: 28 :: 172 :: []
noncomputable def dt167_5 : List Nat := 13 :: 42 :: 180 :: 0 :: 222 :: 46 :: 4 :: 100 :: 61 :: 21 :: 5 :: 62 :: 132 :: 4 :: 1 :: 167 :: dt167_6
noncomputable def dt167_4 : List Nat := 244 :: 54 :: 5 :: 28 :: 155 :: 0 :: 9 :: 21 :: 5 :: 29 :: 162 :: 0 :: 18 :: 42 :: 180 :: 0 :: dt167_5
noncomputable def dt167_3 : List Nat := 42 :: 180 :: 0 :: 222 :: 46 :: 16 :: 40 :: 162 :: 0 :: 43 :: 42 :: 182 :: 0 :: 238 :: 184 :: 0 :: dt167_4
noncomputable def dt167_2 : List Nat := 61 :: 3 :: 62 :: 3 :: 54 :: 4 :: 21 :: 4 :: 27 :: 162 :: 0 :: 57 :: 42 :: 180 :: 0 :: 13 :: dt167_3
noncomputable def dt167_1 : List Nat := 3 :: 46 :: 16 :: 40 :: 160 :: 0 :: 6 :: 16 :: 253 :: 172 :: 42 :: 182 :: 0 :: 247 :: 16 :: 253 :: dt167_2
noncomputable def dt167_0 : List Nat := 27 :: 4 :: 16 :: 20 :: 184 :: 0 :: 87 :: 154 :: 0 :: 5 :: 2 :: 172 :: 42 :: 180 :: 0 :: 13 :: dt167_1
theorem dw167_0 : dn cX9_least 0 = dt167_0 := by decide +kernel
theorem dw167_1 : dn cX9_least 16 = dt167_1 := dn_w dw167_0 16 rfl
theorem dw167_2 : dn cX9_least 32 = dt167_2 := dn_w dw167_1 16 rfl
theorem dw167_3 : dn cX9_least 48 = dt167_3 := dn_w dw167_2 16 rfl
theorem dw167_4 : dn cX9_least 64 = dt167_4 := dn_w dw167_3 16 rfl
theorem dw167_5 : dn cX9_least 80 = dt167_5 := dn_w dw167_4 16 rfl
theorem dw167_6 : dn cX9_least 96 = dt167_6 := dn_w dw167_5 16 rfl
theorem dX9_least_0 : decode cX9_least 0 = .ok (.iload_n 1, 1) := dop_27 (dn_w dw167_0 0 rfl)
theorem dX9_least_1 : decode cX9_least 1 = .ok (.iconst 1, 1) := dop_4 (dn_w dw167_0 1 rfl)
theorem dX9_least_2 : decode cX9_least 2 = .ok (.bipush 20, 2) := dop_16 (dn_w dw167_0 2 rfl) rfl
theorem dX9_least_4 : decode cX9_least 4 = .ok (.invokestatic 87, 3) := dop_184 (dn_w dw167_0 4 rfl) rfl
theorem dX9_least_7 : decode cX9_least 7 = .ok (.ifCond .ne 5, 3) := dop_154 (dn_w dw167_0 7 rfl) rfl
theorem dX9_least_10 : decode cX9_least 10 = .ok (.iconst (-1), 1) := dop_2 (dn_w dw167_0 10 rfl)
theorem dX9_least_11 : decode cX9_least 11 = .ok (.ireturn, 1) := dop_172 (dn_w dw167_0 11 rfl)
theorem dX9_least_12 : decode cX9_least 12 = .ok (.aload_n 0, 1) := dop_42 (dn_w dw167_0 12 rfl)
theorem dX9_least_13 : decode cX9_least 13 = .ok (.getfield 13, 3) := dop_180 (dn_w dw167_0 13 rfl) rfl
theorem dX9_least_16 : decode cX9_least 16 = .ok (.iconst 0, 1) := dop_3 (dn_w dw167_1 0 rfl)
theorem dX9_least_17 : decode cX9_least 17 = .ok (.iaload, 1) := dop_46 (dn_w dw167_1 1 rfl)
theorem dX9_least_18 : decode cX9_least 18 = .ok (.bipush 40, 2) := dop_16 (dn_w dw167_1 2 rfl) rfl
theorem dX9_least_20 : decode cX9_least 20 = .ok (.if_icmp .ne 6, 3) := dop_160 (dn_w dw167_1 4 rfl) rfl
theorem dX9_least_23 : decode cX9_least 23 = .ok (.bipush (-3), 2) := dop_16 (dn_w dw167_1 7 rfl) rfl
theorem dX9_least_25 : decode cX9_least 25 = .ok (.ireturn, 1) := dop_172 (dn_w dw167_1 9 rfl)
theorem dX9_least_26 : decode cX9_least 26 = .ok (.aload_n 0, 1) := dop_42 (dn_w dw167_1 10 rfl)
theorem dX9_least_27 : decode cX9_least 27 = .ok (.invokevirtual 247, 3) := dop_182 (dn_w dw167_1 11 rfl) rfl
theorem dX9_least_30 : decode cX9_least 30 = .ok (.bipush (-3), 2) := dop_16 (dn_w dw167_1 14 rfl) rfl
theorem dX9_least_32 : decode cX9_least 32 = .ok (.istore_n 2, 1) := dop_61 (dn_w dw167_2 0 rfl)
theorem dX9_least_33 : decode cX9_least 33 = .ok (.iconst 0, 1) := dop_3 (dn_w dw167_2 1 rfl)
theorem dX9_least_34 : decode cX9_least 34 = .ok (.istore_n 3, 1) := dop_62 (dn_w dw167_2 2 rfl)
theorem dX9_least_35 : decode cX9_least 35 = .ok (.iconst 0, 1) := dop_3 (dn_w dw167_2 3 rfl)
theorem dX9_least_36 : decode cX9_least 36 = .ok (.istore 4, 2) := dop_54 (dn_w dw167_2 4 rfl)
theorem dX9_least_38 : decode cX9_least 38 = .ok (.iload 4, 2) := dop_21 (dn_w dw167_2 6 rfl)
theorem dX9_least_40 : decode cX9_least 40 = .ok (.iload_n 1, 1) := dop_27 (dn_w dw167_2 8 rfl)
theorem dX9_least_41 : decode cX9_least 41 = .ok (.if_icmp .ge 57, 3) := dop_162 (dn_w dw167_2 9 rfl) rfl
theorem dX9_least_44 : decode cX9_least 44 = .ok (.aload_n 0, 1) := dop_42 (dn_w dw167_2 12 rfl)
theorem dX9_least_45 : decode cX9_least 45 = .ok (.getfield 13, 3) := dop_180 (dn_w dw167_2 13 rfl) rfl
theorem dX9_least_48 : decode cX9_least 48 = .ok (.aload_n 0, 1) := dop_42 (dn_w dw167_3 0 rfl)
theorem dX9_least_49 : decode cX9_least 49 = .ok (.getfield 222, 3) := dop_180 (dn_w dw167_3 1 rfl) rfl
theorem dX9_least_52 : decode cX9_least 52 = .ok (.iaload, 1) := dop_46 (dn_w dw167_3 4 rfl)
theorem dX9_least_53 : decode cX9_least 53 = .ok (.bipush 40, 2) := dop_16 (dn_w dw167_3 5 rfl) rfl
theorem dX9_least_55 : decode cX9_least 55 = .ok (.if_icmp .ge 43, 3) := dop_162 (dn_w dw167_3 7 rfl) rfl
theorem dX9_least_58 : decode cX9_least 58 = .ok (.aload_n 0, 1) := dop_42 (dn_w dw167_3 10 rfl)
theorem dX9_least_59 : decode cX9_least 59 = .ok (.invokevirtual 238, 3) := dop_182 (dn_w dw167_3 11 rfl) rfl
theorem dX9_least_62 : decode cX9_least 62 = .ok (.invokestatic 244, 3) := dop_184 (dn_w dw167_3 14 rfl) rfl
theorem dX9_least_65 : decode cX9_least 65 = .ok (.istore 5, 2) := dop_54 (dn_w dw167_4 1 rfl)
theorem dX9_least_67 : decode cX9_least 67 = .ok (.iload_n 2, 1) := dop_28 (dn_w dw167_4 3 rfl)
theorem dX9_least_68 : decode cX9_least 68 = .ok (.ifCond .lt 9, 3) := dop_155 (dn_w dw167_4 4 rfl) rfl
theorem dX9_least_71 : decode cX9_least 71 = .ok (.iload 5, 2) := dop_21 (dn_w dw167_4 7 rfl)
theorem dX9_least_73 : decode cX9_least 73 = .ok (.iload_n 3, 1) := dop_29 (dn_w dw167_4 9 rfl)
theorem dX9_least_74 : decode cX9_least 74 = .ok (.if_icmp .ge 18, 3) := dop_162 (dn_w dw167_4 10 rfl) rfl
theorem dX9_least_77 : decode cX9_least 77 = .ok (.aload_n 0, 1) := dop_42 (dn_w dw167_4 13 rfl)
theorem dX9_least_78 : decode cX9_least 78 = .ok (.getfield 13, 3) := dop_180 (dn_w dw167_4 14 rfl) rfl
theorem dX9_least_81 : decode cX9_least 81 = .ok (.aload_n 0, 1) := dop_42 (dn_w dw167_5 1 rfl)
theorem dX9_least_82 : decode cX9_least 82 = .ok (.getfield 222, 3) := dop_180 (dn_w dw167_5 2 rfl) rfl
theorem dX9_least_85 : decode cX9_least 85 = .ok (.iaload, 1) := dop_46 (dn_w dw167_5 5 rfl)
theorem dX9_least_86 : decode cX9_least 86 = .ok (.iconst 1, 1) := dop_4 (dn_w dw167_5 6 rfl)
theorem dX9_least_87 : decode cX9_least 87 = .ok (.isub, 1) := dop_100 (dn_w dw167_5 7 rfl)
theorem dX9_least_88 : decode cX9_least 88 = .ok (.istore_n 2, 1) := dop_61 (dn_w dw167_5 8 rfl)
theorem dX9_least_89 : decode cX9_least 89 = .ok (.iload 5, 2) := dop_21 (dn_w dw167_5 9 rfl)
theorem dX9_least_91 : decode cX9_least 91 = .ok (.istore_n 3, 1) := dop_62 (dn_w dw167_5 11 rfl)
theorem dX9_least_92 : decode cX9_least 92 = .ok (.iinc 4 1, 3) := dop_132 (dn_w dw167_5 12 rfl) rfl
theorem dX9_least_95 : decode cX9_least 95 = .ok (.goto (-57), 3) := dop_167 (dn_w dw167_5 15 rfl) rfl
theorem dX9_least_98 : decode cX9_least 98 = .ok (.aload_n 0, 1) := dop_42 (dn_w dw167_6 2 rfl)
theorem dX9_least_99 : decode cX9_least 99 = .ok (.iconst 0, 1) := dop_3 (dn_w dw167_6 3 rfl)
theorem dX9_least_100 : decode cX9_least 100 = .ok (.putfield 222, 3) := dop_181 (dn_w dw167_6 4 rfl) rfl
theorem dX9_least_103 : decode cX9_least 103 = .ok (.iload_n 2, 1) := dop_28 (dn_w dw167_6 7 rfl)
theorem dX9_least_104 : decode cX9_least 104 = .ok (.ireturn, 1) := dop_172 (dn_w dw167_6 8 rfl)
noncomputable def dt168_8 : List Nat := 172 :: []
noncomputable def dt168_7 : List Nat := 167 :: 0 :: 7 :: 21 :: 4 :: 4 :: 96 :: 54 :: 4 :: 132 :: 5 :: 1 :: 167 :: 255 :: 138 :: 4 :: dt168_8
noncomputable def dt168_6 : List Nat := 3 :: 54 :: 8 :: 21 :: 8 :: 154 :: 0 :: 5 :: 3 :: 172 :: 21 :: 6 :: 153 :: 0 :: 7 :: 3 :: dt168_7
noncomputable def dt168_5 : List Nat := 0 :: 13 :: 28 :: 5 :: 159 :: 0 :: 8 :: 28 :: 8 :: 160 :: 0 :: 7 :: 4 :: 167 :: 0 :: 4 :: dt168_6
noncomputable def dt168_4 : List Nat := 21 :: 7 :: 154 :: 0 :: 7 :: 4 :: 167 :: 0 :: 27 :: 3 :: 167 :: 0 :: 23 :: 21 :: 7 :: 154 :: dt168_5
noncomputable def dt168_3 : List Nat := 21 :: 5 :: 3 :: 3 :: 21 :: 4 :: 182 :: 0 :: 225 :: 54 :: 7 :: 21 :: 6 :: 153 :: 0 :: 16 :: dt168_4
noncomputable def dt168_2 : List Nat := 4 :: 167 :: 0 :: 4 :: 3 :: 54 :: 6 :: 42 :: 28 :: 29 :: 42 :: 27 :: 6 :: 182 :: 0 :: 209 :: dt168_3
noncomputable def dt168_1 : List Nat := 113 :: 42 :: 180 :: 0 :: 19 :: 21 :: 5 :: 46 :: 27 :: 122 :: 4 :: 126 :: 4 :: 160 :: 0 :: 7 :: dt168_2
noncomputable def dt168_0 : List Nat := 3 :: 54 :: 4 :: 3 :: 54 :: 5 :: 21 :: 5 :: 42 :: 180 :: 0 :: 13 :: 3 :: 46 :: 162 :: 0 :: dt168_1
theorem dw168_0 : dn cX9_isOf 0 = dt168_0 := by decide +kernel
theorem dw168_1 : dn cX9_isOf 16 = dt168_1 := dn_w dw168_0 16 rfl
theorem dw168_2 : dn cX9_isOf 32 = dt168_2 := dn_w dw168_1 16 rfl
theorem dw168_3 : dn cX9_isOf 48 = dt168_3 := dn_w dw168_2 16 rfl
theorem dw168_4 : dn cX9_isOf 64 = dt168_4 := dn_w dw168_3 16 rfl
theorem dw168_5 : dn cX9_isOf 80 = dt168_5 := dn_w dw168_4 16 rfl
theorem dw168_6 : dn cX9_isOf 96 = dt168_6 := dn_w dw168_5 16 rfl
theorem dw168_7 : dn cX9_isOf 112 = dt168_7 := dn_w dw168_6 16 rfl
theorem dw168_8 : dn cX9_isOf 128 = dt168_8 := dn_w dw168_7 16 rfl
theorem dX9_isOf_0 : decode cX9_isOf 0 = .ok (.iconst 0, 1) := dop_3 (dn_w dw168_0 0 rfl)
theorem dX9_isOf_1 : decode cX9_isOf 1 = .ok (.istore 4, 2) := dop_54 (dn_w dw168_0 1 rfl)
theorem dX9_isOf_3 : decode cX9_isOf 3 = .ok (.iconst 0, 1) := dop_3 (dn_w dw168_0 3 rfl)
theorem dX9_isOf_4 : decode cX9_isOf 4 = .ok (.istore 5, 2) := dop_54 (dn_w dw168_0 4 rfl)
theorem dX9_isOf_6 : decode cX9_isOf 6 = .ok (.iload 5, 2) := dop_21 (dn_w dw168_0 6 rfl)
theorem dX9_isOf_8 : decode cX9_isOf 8 = .ok (.aload_n 0, 1) := dop_42 (dn_w dw168_0 8 rfl)
theorem dX9_isOf_9 : decode cX9_isOf 9 = .ok (.getfield 13, 3) := dop_180 (dn_w dw168_0 9 rfl) rfl
theorem dX9_isOf_12 : decode cX9_isOf 12 = .ok (.iconst 0, 1) := dop_3 (dn_w dw168_0 12 rfl)
theorem dX9_isOf_13 : decode cX9_isOf 13 = .ok (.iaload, 1) := dop_46 (dn_w dw168_0 13 rfl)
theorem dX9_isOf_14 : decode cX9_isOf 14 = .ok (.if_icmp .ge 113, 3) := dop_162 (dn_w dw168_0 14 rfl) rfl
theorem dX9_isOf_17 : decode cX9_isOf 17 = .ok (.aload_n 0, 1) := dop_42 (dn_w dw168_1 1 rfl)
theorem dX9_isOf_18 : decode cX9_isOf 18 = .ok (.getfield 19, 3) := dop_180 (dn_w dw168_1 2 rfl) rfl
theorem dX9_isOf_21 : decode cX9_isOf 21 = .ok (.iload 5, 2) := dop_21 (dn_w dw168_1 5 rfl)
theorem dX9_isOf_23 : decode cX9_isOf 23 = .ok (.iaload, 1) := dop_46 (dn_w dw168_1 7 rfl)
theorem dX9_isOf_24 : decode cX9_isOf 24 = .ok (.iload_n 1, 1) := dop_27 (dn_w dw168_1 8 rfl)
theorem dX9_isOf_25 : decode cX9_isOf 25 = .ok (.ishr, 1) := dop_122 (dn_w dw168_1 9 rfl)
theorem dX9_isOf_26 : decode cX9_isOf 26 = .ok (.iconst 1, 1) := dop_4 (dn_w dw168_1 10 rfl)
theorem dX9_isOf_27 : decode cX9_isOf 27 = .ok (.iand, 1) := dop_126 (dn_w dw168_1 11 rfl)
theorem dX9_isOf_28 : decode cX9_isOf 28 = .ok (.iconst 1, 1) := dop_4 (dn_w dw168_1 12 rfl)
theorem dX9_isOf_29 : decode cX9_isOf 29 = .ok (.if_icmp .ne 7, 3) := dop_160 (dn_w dw168_1 13 rfl) rfl
theorem dX9_isOf_32 : decode cX9_isOf 32 = .ok (.iconst 1, 1) := dop_4 (dn_w dw168_2 0 rfl)
theorem dX9_isOf_33 : decode cX9_isOf 33 = .ok (.goto 4, 3) := dop_167 (dn_w dw168_2 1 rfl) rfl
theorem dX9_isOf_36 : decode cX9_isOf 36 = .ok (.iconst 0, 1) := dop_3 (dn_w dw168_2 4 rfl)
theorem dX9_isOf_37 : decode cX9_isOf 37 = .ok (.istore 6, 2) := dop_54 (dn_w dw168_2 5 rfl)
theorem dX9_isOf_39 : decode cX9_isOf 39 = .ok (.aload_n 0, 1) := dop_42 (dn_w dw168_2 7 rfl)
theorem dX9_isOf_40 : decode cX9_isOf 40 = .ok (.iload_n 2, 1) := dop_28 (dn_w dw168_2 8 rfl)
theorem dX9_isOf_41 : decode cX9_isOf 41 = .ok (.iload_n 3, 1) := dop_29 (dn_w dw168_2 9 rfl)
theorem dX9_isOf_42 : decode cX9_isOf 42 = .ok (.aload_n 0, 1) := dop_42 (dn_w dw168_2 10 rfl)
theorem dX9_isOf_43 : decode cX9_isOf 43 = .ok (.iload_n 1, 1) := dop_27 (dn_w dw168_2 11 rfl)
theorem dX9_isOf_44 : decode cX9_isOf 44 = .ok (.iconst 3, 1) := dop_6 (dn_w dw168_2 12 rfl)
theorem dX9_isOf_45 : decode cX9_isOf 45 = .ok (.invokevirtual 209, 3) := dop_182 (dn_w dw168_2 13 rfl) rfl
theorem dX9_isOf_48 : decode cX9_isOf 48 = .ok (.iload 5, 2) := dop_21 (dn_w dw168_3 0 rfl)
theorem dX9_isOf_50 : decode cX9_isOf 50 = .ok (.iconst 0, 1) := dop_3 (dn_w dw168_3 2 rfl)
theorem dX9_isOf_51 : decode cX9_isOf 51 = .ok (.iconst 0, 1) := dop_3 (dn_w dw168_3 3 rfl)
theorem dX9_isOf_52 : decode cX9_isOf 52 = .ok (.iload 4, 2) := dop_21 (dn_w dw168_3 4 rfl)
theorem dX9_isOf_54 : decode cX9_isOf 54 = .ok (.invokevirtual 225, 3) := dop_182 (dn_w dw168_3 6 rfl) rfl
theorem dX9_isOf_57 : decode cX9_isOf 57 = .ok (.istore 7, 2) := dop_54 (dn_w dw168_3 9 rfl)
theorem dX9_isOf_59 : decode cX9_isOf 59 = .ok (.iload 6, 2) := dop_21 (dn_w dw168_3 11 rfl)
theorem dX9_isOf_61 : decode cX9_isOf 61 = .ok (.ifCond .eq 16, 3) := dop_153 (dn_w dw168_3 13 rfl) rfl
theorem dX9_isOf_64 : decode cX9_isOf 64 = .ok (.iload 7, 2) := dop_21 (dn_w dw168_4 0 rfl)
theorem dX9_isOf_66 : decode cX9_isOf 66 = .ok (.ifCond .ne 7, 3) := dop_154 (dn_w dw168_4 2 rfl) rfl
theorem dX9_isOf_69 : decode cX9_isOf 69 = .ok (.iconst 1, 1) := dop_4 (dn_w dw168_4 5 rfl)
theorem dX9_isOf_70 : decode cX9_isOf 70 = .ok (.goto 27, 3) := dop_167 (dn_w dw168_4 6 rfl) rfl
theorem dX9_isOf_73 : decode cX9_isOf 73 = .ok (.iconst 0, 1) := dop_3 (dn_w dw168_4 9 rfl)
theorem dX9_isOf_74 : decode cX9_isOf 74 = .ok (.goto 23, 3) := dop_167 (dn_w dw168_4 10 rfl) rfl
theorem dX9_isOf_77 : decode cX9_isOf 77 = .ok (.iload 7, 2) := dop_21 (dn_w dw168_4 13 rfl)
theorem dX9_isOf_79 : decode cX9_isOf 79 = .ok (.ifCond .ne 13, 3) := dop_154 (dn_w dw168_4 15 rfl) rfl
theorem dX9_isOf_82 : decode cX9_isOf 82 = .ok (.iload_n 2, 1) := dop_28 (dn_w dw168_5 2 rfl)
theorem dX9_isOf_83 : decode cX9_isOf 83 = .ok (.iconst 2, 1) := dop_5 (dn_w dw168_5 3 rfl)
theorem dX9_isOf_84 : decode cX9_isOf 84 = .ok (.if_icmp .eq 8, 3) := dop_159 (dn_w dw168_5 4 rfl) rfl
theorem dX9_isOf_87 : decode cX9_isOf 87 = .ok (.iload_n 2, 1) := dop_28 (dn_w dw168_5 7 rfl)
theorem dX9_isOf_88 : decode cX9_isOf 88 = .ok (.iconst 5, 1) := dop_8 (dn_w dw168_5 8 rfl)
theorem dX9_isOf_89 : decode cX9_isOf 89 = .ok (.if_icmp .ne 7, 3) := dop_160 (dn_w dw168_5 9 rfl) rfl
theorem dX9_isOf_92 : decode cX9_isOf 92 = .ok (.iconst 1, 1) := dop_4 (dn_w dw168_5 12 rfl)
theorem dX9_isOf_93 : decode cX9_isOf 93 = .ok (.goto 4, 3) := dop_167 (dn_w dw168_5 13 rfl) rfl
theorem dX9_isOf_96 : decode cX9_isOf 96 = .ok (.iconst 0, 1) := dop_3 (dn_w dw168_6 0 rfl)
theorem dX9_isOf_97 : decode cX9_isOf 97 = .ok (.istore 8, 2) := dop_54 (dn_w dw168_6 1 rfl)
theorem dX9_isOf_99 : decode cX9_isOf 99 = .ok (.iload 8, 2) := dop_21 (dn_w dw168_6 3 rfl)
theorem dX9_isOf_101 : decode cX9_isOf 101 = .ok (.ifCond .ne 5, 3) := dop_154 (dn_w dw168_6 5 rfl) rfl
theorem dX9_isOf_104 : decode cX9_isOf 104 = .ok (.iconst 0, 1) := dop_3 (dn_w dw168_6 8 rfl)
theorem dX9_isOf_105 : decode cX9_isOf 105 = .ok (.ireturn, 1) := dop_172 (dn_w dw168_6 9 rfl)
theorem dX9_isOf_106 : decode cX9_isOf 106 = .ok (.iload 6, 2) := dop_21 (dn_w dw168_6 10 rfl)
theorem dX9_isOf_108 : decode cX9_isOf 108 = .ok (.ifCond .eq 7, 3) := dop_153 (dn_w dw168_6 12 rfl) rfl
theorem dX9_isOf_111 : decode cX9_isOf 111 = .ok (.iconst 0, 1) := dop_3 (dn_w dw168_6 15 rfl)
theorem dX9_isOf_112 : decode cX9_isOf 112 = .ok (.goto 7, 3) := dop_167 (dn_w dw168_7 0 rfl) rfl
theorem dX9_isOf_115 : decode cX9_isOf 115 = .ok (.iload 4, 2) := dop_21 (dn_w dw168_7 3 rfl)
theorem dX9_isOf_117 : decode cX9_isOf 117 = .ok (.iconst 1, 1) := dop_4 (dn_w dw168_7 5 rfl)
theorem dX9_isOf_118 : decode cX9_isOf 118 = .ok (.iadd, 1) := dop_96 (dn_w dw168_7 6 rfl)
theorem dX9_isOf_119 : decode cX9_isOf 119 = .ok (.istore 4, 2) := dop_54 (dn_w dw168_7 7 rfl)
theorem dX9_isOf_121 : decode cX9_isOf 121 = .ok (.iinc 5 1, 3) := dop_132 (dn_w dw168_7 9 rfl) rfl
theorem dX9_isOf_124 : decode cX9_isOf 124 = .ok (.goto (-118), 3) := dop_167 (dn_w dw168_7 12 rfl) rfl
theorem dX9_isOf_127 : decode cX9_isOf 127 = .ok (.iconst 1, 1) := dop_4 (dn_w dw168_7 15 rfl)
theorem dX9_isOf_128 : decode cX9_isOf 128 = .ok (.ireturn, 1) := dop_172 (dn_w dw168_8 0 rfl)
noncomputable def dt169_4 : List Nat := 172 :: []
noncomputable def dt169_3 : List Nat := 3 :: 128 :: 61 :: 132 :: 4 :: 1 :: 167 :: 255 :: 225 :: 132 :: 3 :: 1 :: 167 :: 255 :: 210 :: 28 :: dt169_4
noncomputable def dt169_2 : List Nat := 27 :: 29 :: 21 :: 4 :: 182 :: 0 :: 253 :: 153 :: 0 :: 9 :: 4 :: 29 :: 120 :: 167 :: 0 :: 4 :: dt169_3
noncomputable def dt169_1 : List Nat := 6 :: 162 :: 0 :: 46 :: 3 :: 54 :: 4 :: 21 :: 4 :: 16 :: 10 :: 162 :: 0 :: 30 :: 28 :: 42 :: dt169_2
noncomputable def dt169_0 : List Nat := 42 :: 27 :: 182 :: 0 :: 206 :: 154 :: 0 :: 5 :: 2 :: 172 :: 3 :: 61 :: 3 :: 62 :: 29 :: 16 :: dt169_1
theorem dw169_0 : dn cX9_fits 0 = dt169_0 := by decide +kernel
theorem dw169_1 : dn cX9_fits 16 = dt169_1 := dn_w dw169_0 16 rfl
theorem dw169_2 : dn cX9_fits 32 = dt169_2 := dn_w dw169_1 16 rfl
theorem dw169_3 : dn cX9_fits 48 = dt169_3 := dn_w dw169_2 16 rfl
theorem dw169_4 : dn cX9_fits 64 = dt169_4 := dn_w dw169_3 16 rfl
theorem dX9_fits_0 : decode cX9_fits 0 = .ok (.aload_n 0, 1) := dop_42 (dn_w dw169_0 0 rfl)
theorem dX9_fits_1 : decode cX9_fits 1 = .ok (.iload_n 1, 1) := dop_27 (dn_w dw169_0 1 rfl)
theorem dX9_fits_2 : decode cX9_fits 2 = .ok (.invokevirtual 206, 3) := dop_182 (dn_w dw169_0 2 rfl) rfl
theorem dX9_fits_5 : decode cX9_fits 5 = .ok (.ifCond .ne 5, 3) := dop_154 (dn_w dw169_0 5 rfl) rfl
theorem dX9_fits_8 : decode cX9_fits 8 = .ok (.iconst (-1), 1) := dop_2 (dn_w dw169_0 8 rfl)
theorem dX9_fits_9 : decode cX9_fits 9 = .ok (.ireturn, 1) := dop_172 (dn_w dw169_0 9 rfl)
theorem dX9_fits_10 : decode cX9_fits 10 = .ok (.iconst 0, 1) := dop_3 (dn_w dw169_0 10 rfl)
theorem dX9_fits_11 : decode cX9_fits 11 = .ok (.istore_n 2, 1) := dop_61 (dn_w dw169_0 11 rfl)
theorem dX9_fits_12 : decode cX9_fits 12 = .ok (.iconst 0, 1) := dop_3 (dn_w dw169_0 12 rfl)
theorem dX9_fits_13 : decode cX9_fits 13 = .ok (.istore_n 3, 1) := dop_62 (dn_w dw169_0 13 rfl)
theorem dX9_fits_14 : decode cX9_fits 14 = .ok (.iload_n 3, 1) := dop_29 (dn_w dw169_0 14 rfl)
theorem dX9_fits_15 : decode cX9_fits 15 = .ok (.bipush 6, 2) := dop_16 (dn_w dw169_0 15 rfl) rfl
theorem dX9_fits_17 : decode cX9_fits 17 = .ok (.if_icmp .ge 46, 3) := dop_162 (dn_w dw169_1 1 rfl) rfl
theorem dX9_fits_20 : decode cX9_fits 20 = .ok (.iconst 0, 1) := dop_3 (dn_w dw169_1 4 rfl)
theorem dX9_fits_21 : decode cX9_fits 21 = .ok (.istore 4, 2) := dop_54 (dn_w dw169_1 5 rfl)
theorem dX9_fits_23 : decode cX9_fits 23 = .ok (.iload 4, 2) := dop_21 (dn_w dw169_1 7 rfl)
theorem dX9_fits_25 : decode cX9_fits 25 = .ok (.bipush 10, 2) := dop_16 (dn_w dw169_1 9 rfl) rfl
theorem dX9_fits_27 : decode cX9_fits 27 = .ok (.if_icmp .ge 30, 3) := dop_162 (dn_w dw169_1 11 rfl) rfl
theorem dX9_fits_30 : decode cX9_fits 30 = .ok (.iload_n 2, 1) := dop_28 (dn_w dw169_1 14 rfl)
theorem dX9_fits_31 : decode cX9_fits 31 = .ok (.aload_n 0, 1) := dop_42 (dn_w dw169_1 15 rfl)
theorem dX9_fits_32 : decode cX9_fits 32 = .ok (.iload_n 1, 1) := dop_27 (dn_w dw169_2 0 rfl)
theorem dX9_fits_33 : decode cX9_fits 33 = .ok (.iload_n 3, 1) := dop_29 (dn_w dw169_2 1 rfl)
theorem dX9_fits_34 : decode cX9_fits 34 = .ok (.iload 4, 2) := dop_21 (dn_w dw169_2 2 rfl)
theorem dX9_fits_36 : decode cX9_fits 36 = .ok (.invokevirtual 253, 3) := dop_182 (dn_w dw169_2 4 rfl) rfl
theorem dX9_fits_39 : decode cX9_fits 39 = .ok (.ifCond .eq 9, 3) := dop_153 (dn_w dw169_2 7 rfl) rfl
theorem dX9_fits_42 : decode cX9_fits 42 = .ok (.iconst 1, 1) := dop_4 (dn_w dw169_2 10 rfl)
theorem dX9_fits_43 : decode cX9_fits 43 = .ok (.iload_n 3, 1) := dop_29 (dn_w dw169_2 11 rfl)
theorem dX9_fits_44 : decode cX9_fits 44 = .ok (.ishl, 1) := dop_120 (dn_w dw169_2 12 rfl)
theorem dX9_fits_45 : decode cX9_fits 45 = .ok (.goto 4, 3) := dop_167 (dn_w dw169_2 13 rfl) rfl
theorem dX9_fits_48 : decode cX9_fits 48 = .ok (.iconst 0, 1) := dop_3 (dn_w dw169_3 0 rfl)
theorem dX9_fits_49 : decode cX9_fits 49 = .ok (.ior, 1) := dop_128 (dn_w dw169_3 1 rfl)
theorem dX9_fits_50 : decode cX9_fits 50 = .ok (.istore_n 2, 1) := dop_61 (dn_w dw169_3 2 rfl)
theorem dX9_fits_51 : decode cX9_fits 51 = .ok (.iinc 4 1, 3) := dop_132 (dn_w dw169_3 3 rfl) rfl
theorem dX9_fits_54 : decode cX9_fits 54 = .ok (.goto (-31), 3) := dop_167 (dn_w dw169_3 6 rfl) rfl
theorem dX9_fits_57 : decode cX9_fits 57 = .ok (.iinc 3 1, 3) := dop_132 (dn_w dw169_3 9 rfl) rfl
theorem dX9_fits_60 : decode cX9_fits 60 = .ok (.goto (-46), 3) := dop_167 (dn_w dw169_3 12 rfl) rfl
theorem dX9_fits_63 : decode cX9_fits 63 = .ok (.iload_n 2, 1) := dop_28 (dn_w dw169_3 15 rfl)
theorem dX9_fits_64 : decode cX9_fits 64 = .ok (.ireturn, 1) := dop_172 (dn_w dw169_4 0 rfl)
noncomputable def dt170_0 : List Nat := 42 :: 180 :: 0 :: 34 :: 61 :: 42 :: 27 :: 181 :: 0 :: 34 :: 28 :: 172 :: []
theorem dw170_0 : dn cX9_seed 0 = dt170_0 := by decide +kernel
theorem dX9_seed_0 : decode cX9_seed 0 = .ok (.aload_n 0, 1) := dop_42 (dn_w dw170_0 0 rfl)
theorem dX9_seed_1 : decode cX9_seed 1 = .ok (.getfield 34, 3) := dop_180 (dn_w dw170_0 1 rfl) rfl
theorem dX9_seed_4 : decode cX9_seed 4 = .ok (.istore_n 2, 1) := dop_61 (dn_w dw170_0 4 rfl)
theorem dX9_seed_5 : decode cX9_seed 5 = .ok (.aload_n 0, 1) := dop_42 (dn_w dw170_0 5 rfl)
theorem dX9_seed_6 : decode cX9_seed 6 = .ok (.iload_n 1, 1) := dop_27 (dn_w dw170_0 6 rfl)
theorem dX9_seed_7 : decode cX9_seed 7 = .ok (.putfield 34, 3) := dop_181 (dn_w dw170_0 7 rfl) rfl
theorem dX9_seed_10 : decode cX9_seed 10 = .ok (.iload_n 2, 1) := dop_28 (dn_w dw170_0 10 rfl)
theorem dX9_seed_11 : decode cX9_seed 11 = .ok (.ireturn, 1) := dop_172 (dn_w dw170_0 11 rfl)
noncomputable def dt171_7 : List Nat := 255 :: 233 :: 29 :: 172 :: []
noncomputable def dt171_6 : List Nat := 28 :: 158 :: 0 :: 17 :: 28 :: 27 :: 29 :: 122 :: 4 :: 126 :: 100 :: 61 :: 132 :: 3 :: 1 :: 167 :: dt171_7
noncomputable def dt171_5 : List Nat := 27 :: 184 :: 0 :: 244 :: 112 :: 61 :: 3 :: 62 :: 27 :: 29 :: 122 :: 4 :: 126 :: 153 :: 0 :: 7 :: dt171_6
noncomputable def dt171_4 : List Nat := 0 :: 104 :: 17 :: 48 :: 57 :: 96 :: 181 :: 0 :: 34 :: 42 :: 180 :: 0 :: 34 :: 16 :: 16 :: 124 :: dt171_5
noncomputable def dt171_3 : List Nat := 255 :: 227 :: 27 :: 154 :: 0 :: 6 :: 16 :: 253 :: 172 :: 42 :: 42 :: 180 :: 0 :: 34 :: 19 :: 1 :: dt171_4
noncomputable def dt171_2 : List Nat := 153 :: 0 :: 7 :: 3 :: 167 :: 0 :: 6 :: 4 :: 28 :: 120 :: 128 :: 60 :: 132 :: 2 :: 1 :: 167 :: dt171_3
noncomputable def dt171_1 : List Nat := 3 :: 61 :: 28 :: 42 :: 180 :: 0 :: 91 :: 162 :: 0 :: 27 :: 27 :: 42 :: 28 :: 182 :: 0 :: 229 :: dt171_2
noncomputable def dt171_0 : List Nat := 42 :: 180 :: 0 :: 13 :: 3 :: 46 :: 16 :: 40 :: 160 :: 0 :: 6 :: 16 :: 252 :: 172 :: 3 :: 60 :: dt171_1
theorem dw171_0 : dn cX9_draw 0 = dt171_0 := by decide +kernel
theorem dw171_1 : dn cX9_draw 16 = dt171_1 := dn_w dw171_0 16 rfl
theorem dw171_2 : dn cX9_draw 32 = dt171_2 := dn_w dw171_1 16 rfl
theorem dw171_3 : dn cX9_draw 48 = dt171_3 := dn_w dw171_2 16 rfl
theorem dw171_4 : dn cX9_draw 64 = dt171_4 := dn_w dw171_3 16 rfl
theorem dw171_5 : dn cX9_draw 80 = dt171_5 := dn_w dw171_4 16 rfl
theorem dw171_6 : dn cX9_draw 96 = dt171_6 := dn_w dw171_5 16 rfl
theorem dw171_7 : dn cX9_draw 112 = dt171_7 := dn_w dw171_6 16 rfl
theorem dX9_draw_0 : decode cX9_draw 0 = .ok (.aload_n 0, 1) := dop_42 (dn_w dw171_0 0 rfl)
theorem dX9_draw_1 : decode cX9_draw 1 = .ok (.getfield 13, 3) := dop_180 (dn_w dw171_0 1 rfl) rfl
theorem dX9_draw_4 : decode cX9_draw 4 = .ok (.iconst 0, 1) := dop_3 (dn_w dw171_0 4 rfl)
theorem dX9_draw_5 : decode cX9_draw 5 = .ok (.iaload, 1) := dop_46 (dn_w dw171_0 5 rfl)
theorem dX9_draw_6 : decode cX9_draw 6 = .ok (.bipush 40, 2) := dop_16 (dn_w dw171_0 6 rfl) rfl
theorem dX9_draw_8 : decode cX9_draw 8 = .ok (.if_icmp .ne 6, 3) := dop_160 (dn_w dw171_0 8 rfl) rfl
theorem dX9_draw_11 : decode cX9_draw 11 = .ok (.bipush (-4), 2) := dop_16 (dn_w dw171_0 11 rfl) rfl
theorem dX9_draw_13 : decode cX9_draw 13 = .ok (.ireturn, 1) := dop_172 (dn_w dw171_0 13 rfl)
theorem dX9_draw_14 : decode cX9_draw 14 = .ok (.iconst 0, 1) := dop_3 (dn_w dw171_0 14 rfl)
theorem dX9_draw_15 : decode cX9_draw 15 = .ok (.istore_n 1, 1) := dop_60 (dn_w dw171_0 15 rfl)
theorem dX9_draw_16 : decode cX9_draw 16 = .ok (.iconst 0, 1) := dop_3 (dn_w dw171_1 0 rfl)
theorem dX9_draw_17 : decode cX9_draw 17 = .ok (.istore_n 2, 1) := dop_61 (dn_w dw171_1 1 rfl)
theorem dX9_draw_18 : decode cX9_draw 18 = .ok (.iload_n 2, 1) := dop_28 (dn_w dw171_1 2 rfl)
theorem dX9_draw_19 : decode cX9_draw 19 = .ok (.aload_n 0, 1) := dop_42 (dn_w dw171_1 3 rfl)
theorem dX9_draw_20 : decode cX9_draw 20 = .ok (.getfield 91, 3) := dop_180 (dn_w dw171_1 4 rfl) rfl
theorem dX9_draw_23 : decode cX9_draw 23 = .ok (.if_icmp .ge 27, 3) := dop_162 (dn_w dw171_1 7 rfl) rfl
theorem dX9_draw_26 : decode cX9_draw 26 = .ok (.iload_n 1, 1) := dop_27 (dn_w dw171_1 10 rfl)
theorem dX9_draw_27 : decode cX9_draw 27 = .ok (.aload_n 0, 1) := dop_42 (dn_w dw171_1 11 rfl)
theorem dX9_draw_28 : decode cX9_draw 28 = .ok (.iload_n 2, 1) := dop_28 (dn_w dw171_1 12 rfl)
theorem dX9_draw_29 : decode cX9_draw 29 = .ok (.invokevirtual 229, 3) := dop_182 (dn_w dw171_1 13 rfl) rfl
theorem dX9_draw_32 : decode cX9_draw 32 = .ok (.ifCond .eq 7, 3) := dop_153 (dn_w dw171_2 0 rfl) rfl
theorem dX9_draw_35 : decode cX9_draw 35 = .ok (.iconst 0, 1) := dop_3 (dn_w dw171_2 3 rfl)
theorem dX9_draw_36 : decode cX9_draw 36 = .ok (.goto 6, 3) := dop_167 (dn_w dw171_2 4 rfl) rfl
theorem dX9_draw_39 : decode cX9_draw 39 = .ok (.iconst 1, 1) := dop_4 (dn_w dw171_2 7 rfl)
theorem dX9_draw_40 : decode cX9_draw 40 = .ok (.iload_n 2, 1) := dop_28 (dn_w dw171_2 8 rfl)
theorem dX9_draw_41 : decode cX9_draw 41 = .ok (.ishl, 1) := dop_120 (dn_w dw171_2 9 rfl)
theorem dX9_draw_42 : decode cX9_draw 42 = .ok (.ior, 1) := dop_128 (dn_w dw171_2 10 rfl)
theorem dX9_draw_43 : decode cX9_draw 43 = .ok (.istore_n 1, 1) := dop_60 (dn_w dw171_2 11 rfl)
theorem dX9_draw_44 : decode cX9_draw 44 = .ok (.iinc 2 1, 3) := dop_132 (dn_w dw171_2 12 rfl) rfl
theorem dX9_draw_47 : decode cX9_draw 47 = .ok (.goto (-29), 3) := dop_167 (dn_w dw171_2 15 rfl) rfl
theorem dX9_draw_50 : decode cX9_draw 50 = .ok (.iload_n 1, 1) := dop_27 (dn_w dw171_3 2 rfl)
theorem dX9_draw_51 : decode cX9_draw 51 = .ok (.ifCond .ne 6, 3) := dop_154 (dn_w dw171_3 3 rfl) rfl
theorem dX9_draw_54 : decode cX9_draw 54 = .ok (.bipush (-3), 2) := dop_16 (dn_w dw171_3 6 rfl) rfl
theorem dX9_draw_56 : decode cX9_draw 56 = .ok (.ireturn, 1) := dop_172 (dn_w dw171_3 8 rfl)
theorem dX9_draw_57 : decode cX9_draw 57 = .ok (.aload_n 0, 1) := dop_42 (dn_w dw171_3 9 rfl)
theorem dX9_draw_58 : decode cX9_draw 58 = .ok (.aload_n 0, 1) := dop_42 (dn_w dw171_3 10 rfl)
theorem dX9_draw_59 : decode cX9_draw 59 = .ok (.getfield 34, 3) := dop_180 (dn_w dw171_3 11 rfl) rfl
theorem dX9_draw_62 : decode cX9_draw 62 = .ok (.ldc_w 256, 3) := dop_19 (dn_w dw171_3 14 rfl) rfl
theorem dX9_draw_65 : decode cX9_draw 65 = .ok (.imul, 1) := dop_104 (dn_w dw171_4 1 rfl)
theorem dX9_draw_66 : decode cX9_draw 66 = .ok (.sipush 12345, 3) := dop_17 (dn_w dw171_4 2 rfl) rfl
theorem dX9_draw_69 : decode cX9_draw 69 = .ok (.iadd, 1) := dop_96 (dn_w dw171_4 5 rfl)
theorem dX9_draw_70 : decode cX9_draw 70 = .ok (.putfield 34, 3) := dop_181 (dn_w dw171_4 6 rfl) rfl
theorem dX9_draw_73 : decode cX9_draw 73 = .ok (.aload_n 0, 1) := dop_42 (dn_w dw171_4 9 rfl)
theorem dX9_draw_74 : decode cX9_draw 74 = .ok (.getfield 34, 3) := dop_180 (dn_w dw171_4 10 rfl) rfl
theorem dX9_draw_77 : decode cX9_draw 77 = .ok (.bipush 16, 2) := dop_16 (dn_w dw171_4 13 rfl) rfl
theorem dX9_draw_79 : decode cX9_draw 79 = .ok (.iushr, 1) := dop_124 (dn_w dw171_4 15 rfl)
theorem dX9_draw_80 : decode cX9_draw 80 = .ok (.iload_n 1, 1) := dop_27 (dn_w dw171_5 0 rfl)
theorem dX9_draw_81 : decode cX9_draw 81 = .ok (.invokestatic 244, 3) := dop_184 (dn_w dw171_5 1 rfl) rfl
theorem dX9_draw_84 : decode cX9_draw 84 = .ok (.irem, 1) := dop_112 (dn_w dw171_5 4 rfl)
theorem dX9_draw_85 : decode cX9_draw 85 = .ok (.istore_n 2, 1) := dop_61 (dn_w dw171_5 5 rfl)
theorem dX9_draw_86 : decode cX9_draw 86 = .ok (.iconst 0, 1) := dop_3 (dn_w dw171_5 6 rfl)
theorem dX9_draw_87 : decode cX9_draw 87 = .ok (.istore_n 3, 1) := dop_62 (dn_w dw171_5 7 rfl)
theorem dX9_draw_88 : decode cX9_draw 88 = .ok (.iload_n 1, 1) := dop_27 (dn_w dw171_5 8 rfl)
theorem dX9_draw_89 : decode cX9_draw 89 = .ok (.iload_n 3, 1) := dop_29 (dn_w dw171_5 9 rfl)
theorem dX9_draw_90 : decode cX9_draw 90 = .ok (.ishr, 1) := dop_122 (dn_w dw171_5 10 rfl)
theorem dX9_draw_91 : decode cX9_draw 91 = .ok (.iconst 1, 1) := dop_4 (dn_w dw171_5 11 rfl)
theorem dX9_draw_92 : decode cX9_draw 92 = .ok (.iand, 1) := dop_126 (dn_w dw171_5 12 rfl)
theorem dX9_draw_93 : decode cX9_draw 93 = .ok (.ifCond .eq 7, 3) := dop_153 (dn_w dw171_5 13 rfl) rfl
theorem dX9_draw_96 : decode cX9_draw 96 = .ok (.iload_n 2, 1) := dop_28 (dn_w dw171_6 0 rfl)
theorem dX9_draw_97 : decode cX9_draw 97 = .ok (.ifCond .le 17, 3) := dop_158 (dn_w dw171_6 1 rfl) rfl
theorem dX9_draw_100 : decode cX9_draw 100 = .ok (.iload_n 2, 1) := dop_28 (dn_w dw171_6 4 rfl)
theorem dX9_draw_101 : decode cX9_draw 101 = .ok (.iload_n 1, 1) := dop_27 (dn_w dw171_6 5 rfl)
theorem dX9_draw_102 : decode cX9_draw 102 = .ok (.iload_n 3, 1) := dop_29 (dn_w dw171_6 6 rfl)
theorem dX9_draw_103 : decode cX9_draw 103 = .ok (.ishr, 1) := dop_122 (dn_w dw171_6 7 rfl)
theorem dX9_draw_104 : decode cX9_draw 104 = .ok (.iconst 1, 1) := dop_4 (dn_w dw171_6 8 rfl)
theorem dX9_draw_105 : decode cX9_draw 105 = .ok (.iand, 1) := dop_126 (dn_w dw171_6 9 rfl)
theorem dX9_draw_106 : decode cX9_draw 106 = .ok (.isub, 1) := dop_100 (dn_w dw171_6 10 rfl)
theorem dX9_draw_107 : decode cX9_draw 107 = .ok (.istore_n 2, 1) := dop_61 (dn_w dw171_6 11 rfl)
theorem dX9_draw_108 : decode cX9_draw 108 = .ok (.iinc 3 1, 3) := dop_132 (dn_w dw171_6 12 rfl) rfl
theorem dX9_draw_111 : decode cX9_draw 111 = .ok (.goto (-23), 3) := dop_167 (dn_w dw171_6 15 rfl) rfl
theorem dX9_draw_114 : decode cX9_draw 114 = .ok (.iload_n 3, 1) := dop_29 (dn_w dw171_7 2 rfl)
theorem dX9_draw_115 : decode cX9_draw 115 = .ok (.ireturn, 1) := dop_172 (dn_w dw171_7 3 rfl)
noncomputable def dt172_6 : List Nat := 255 :: 170 :: 42 :: 3 :: 181 :: 0 :: 222 :: 177 :: []
noncomputable def dt172_5 : List Nat := 42 :: 182 :: 0 :: 232 :: 79 :: 42 :: 89 :: 180 :: 1 :: 1 :: 4 :: 96 :: 181 :: 1 :: 1 :: 167 :: dt172_6
noncomputable def dt172_4 : List Nat := 182 :: 0 :: 238 :: 79 :: 42 :: 180 :: 0 :: 56 :: 6 :: 42 :: 180 :: 1 :: 1 :: 104 :: 5 :: 96 :: dt172_5
noncomputable def dt172_3 : List Nat := 222 :: 46 :: 79 :: 42 :: 180 :: 0 :: 56 :: 6 :: 42 :: 180 :: 1 :: 1 :: 104 :: 4 :: 96 :: 42 :: dt172_4
noncomputable def dt172_2 : List Nat := 180 :: 0 :: 56 :: 6 :: 42 :: 180 :: 1 :: 1 :: 104 :: 42 :: 180 :: 0 :: 13 :: 42 :: 180 :: 0 :: dt172_3
noncomputable def dt172_1 : List Nat := 84 :: 42 :: 180 :: 0 :: 13 :: 42 :: 180 :: 0 :: 222 :: 46 :: 16 :: 40 :: 162 :: 0 :: 70 :: 42 :: dt172_2
noncomputable def dt172_0 : List Nat := 42 :: 182 :: 0 :: 247 :: 42 :: 3 :: 181 :: 1 :: 1 :: 42 :: 180 :: 1 :: 1 :: 27 :: 162 :: 0 :: dt172_1
theorem dw172_0 : dn cX9_findRows 0 = dt172_0 := by decide +kernel
theorem dw172_1 : dn cX9_findRows 16 = dt172_1 := dn_w dw172_0 16 rfl
theorem dw172_2 : dn cX9_findRows 32 = dt172_2 := dn_w dw172_1 16 rfl
theorem dw172_3 : dn cX9_findRows 48 = dt172_3 := dn_w dw172_2 16 rfl
theorem dw172_4 : dn cX9_findRows 64 = dt172_4 := dn_w dw172_3 16 rfl
theorem dw172_5 : dn cX9_findRows 80 = dt172_5 := dn_w dw172_4 16 rfl
theorem dw172_6 : dn cX9_findRows 96 = dt172_6 := dn_w dw172_5 16 rfl
theorem dX9_findRows_0 : decode cX9_findRows 0 = .ok (.aload_n 0, 1) := dop_42 (dn_w dw172_0 0 rfl)
theorem dX9_findRows_1 : decode cX9_findRows 1 = .ok (.invokevirtual 247, 3) := dop_182 (dn_w dw172_0 1 rfl) rfl
theorem dX9_findRows_4 : decode cX9_findRows 4 = .ok (.aload_n 0, 1) := dop_42 (dn_w dw172_0 4 rfl)
theorem dX9_findRows_5 : decode cX9_findRows 5 = .ok (.iconst 0, 1) := dop_3 (dn_w dw172_0 5 rfl)
theorem dX9_findRows_6 : decode cX9_findRows 6 = .ok (.putfield 257, 3) := dop_181 (dn_w dw172_0 6 rfl) rfl
theorem dX9_findRows_9 : decode cX9_findRows 9 = .ok (.aload_n 0, 1) := dop_42 (dn_w dw172_0 9 rfl)
theorem dX9_findRows_10 : decode cX9_findRows 10 = .ok (.getfield 257, 3) := dop_180 (dn_w dw172_0 10 rfl) rfl
theorem dX9_findRows_13 : decode cX9_findRows 13 = .ok (.iload_n 1, 1) := dop_27 (dn_w dw172_0 13 rfl)
theorem dX9_findRows_14 : decode cX9_findRows 14 = .ok (.if_icmp .ge 84, 3) := dop_162 (dn_w dw172_0 14 rfl) rfl
theorem dX9_findRows_17 : decode cX9_findRows 17 = .ok (.aload_n 0, 1) := dop_42 (dn_w dw172_1 1 rfl)
theorem dX9_findRows_18 : decode cX9_findRows 18 = .ok (.getfield 13, 3) := dop_180 (dn_w dw172_1 2 rfl) rfl
theorem dX9_findRows_21 : decode cX9_findRows 21 = .ok (.aload_n 0, 1) := dop_42 (dn_w dw172_1 5 rfl)
theorem dX9_findRows_22 : decode cX9_findRows 22 = .ok (.getfield 222, 3) := dop_180 (dn_w dw172_1 6 rfl) rfl
theorem dX9_findRows_25 : decode cX9_findRows 25 = .ok (.iaload, 1) := dop_46 (dn_w dw172_1 9 rfl)
theorem dX9_findRows_26 : decode cX9_findRows 26 = .ok (.bipush 40, 2) := dop_16 (dn_w dw172_1 10 rfl) rfl
theorem dX9_findRows_28 : decode cX9_findRows 28 = .ok (.if_icmp .ge 70, 3) := dop_162 (dn_w dw172_1 12 rfl) rfl
theorem dX9_findRows_31 : decode cX9_findRows 31 = .ok (.aload_n 0, 1) := dop_42 (dn_w dw172_1 15 rfl)
theorem dX9_findRows_32 : decode cX9_findRows 32 = .ok (.getfield 56, 3) := dop_180 (dn_w dw172_2 0 rfl) rfl
theorem dX9_findRows_35 : decode cX9_findRows 35 = .ok (.iconst 3, 1) := dop_6 (dn_w dw172_2 3 rfl)
theorem dX9_findRows_36 : decode cX9_findRows 36 = .ok (.aload_n 0, 1) := dop_42 (dn_w dw172_2 4 rfl)
theorem dX9_findRows_37 : decode cX9_findRows 37 = .ok (.getfield 257, 3) := dop_180 (dn_w dw172_2 5 rfl) rfl
theorem dX9_findRows_40 : decode cX9_findRows 40 = .ok (.imul, 1) := dop_104 (dn_w dw172_2 8 rfl)
theorem dX9_findRows_41 : decode cX9_findRows 41 = .ok (.aload_n 0, 1) := dop_42 (dn_w dw172_2 9 rfl)
theorem dX9_findRows_42 : decode cX9_findRows 42 = .ok (.getfield 13, 3) := dop_180 (dn_w dw172_2 10 rfl) rfl
theorem dX9_findRows_45 : decode cX9_findRows 45 = .ok (.aload_n 0, 1) := dop_42 (dn_w dw172_2 13 rfl)
theorem dX9_findRows_46 : decode cX9_findRows 46 = .ok (.getfield 222, 3) := dop_180 (dn_w dw172_2 14 rfl) rfl
theorem dX9_findRows_49 : decode cX9_findRows 49 = .ok (.iaload, 1) := dop_46 (dn_w dw172_3 1 rfl)
theorem dX9_findRows_50 : decode cX9_findRows 50 = .ok (.iastore, 1) := dop_79 (dn_w dw172_3 2 rfl)
theorem dX9_findRows_51 : decode cX9_findRows 51 = .ok (.aload_n 0, 1) := dop_42 (dn_w dw172_3 3 rfl)
theorem dX9_findRows_52 : decode cX9_findRows 52 = .ok (.getfield 56, 3) := dop_180 (dn_w dw172_3 4 rfl) rfl
theorem dX9_findRows_55 : decode cX9_findRows 55 = .ok (.iconst 3, 1) := dop_6 (dn_w dw172_3 7 rfl)
theorem dX9_findRows_56 : decode cX9_findRows 56 = .ok (.aload_n 0, 1) := dop_42 (dn_w dw172_3 8 rfl)
theorem dX9_findRows_57 : decode cX9_findRows 57 = .ok (.getfield 257, 3) := dop_180 (dn_w dw172_3 9 rfl) rfl
theorem dX9_findRows_60 : decode cX9_findRows 60 = .ok (.imul, 1) := dop_104 (dn_w dw172_3 12 rfl)
theorem dX9_findRows_61 : decode cX9_findRows 61 = .ok (.iconst 1, 1) := dop_4 (dn_w dw172_3 13 rfl)
theorem dX9_findRows_62 : decode cX9_findRows 62 = .ok (.iadd, 1) := dop_96 (dn_w dw172_3 14 rfl)
theorem dX9_findRows_63 : decode cX9_findRows 63 = .ok (.aload_n 0, 1) := dop_42 (dn_w dw172_3 15 rfl)
theorem dX9_findRows_64 : decode cX9_findRows 64 = .ok (.invokevirtual 238, 3) := dop_182 (dn_w dw172_4 0 rfl) rfl
theorem dX9_findRows_67 : decode cX9_findRows 67 = .ok (.iastore, 1) := dop_79 (dn_w dw172_4 3 rfl)
theorem dX9_findRows_68 : decode cX9_findRows 68 = .ok (.aload_n 0, 1) := dop_42 (dn_w dw172_4 4 rfl)
theorem dX9_findRows_69 : decode cX9_findRows 69 = .ok (.getfield 56, 3) := dop_180 (dn_w dw172_4 5 rfl) rfl
theorem dX9_findRows_72 : decode cX9_findRows 72 = .ok (.iconst 3, 1) := dop_6 (dn_w dw172_4 8 rfl)
theorem dX9_findRows_73 : decode cX9_findRows 73 = .ok (.aload_n 0, 1) := dop_42 (dn_w dw172_4 9 rfl)
theorem dX9_findRows_74 : decode cX9_findRows 74 = .ok (.getfield 257, 3) := dop_180 (dn_w dw172_4 10 rfl) rfl
theorem dX9_findRows_77 : decode cX9_findRows 77 = .ok (.imul, 1) := dop_104 (dn_w dw172_4 13 rfl)
theorem dX9_findRows_78 : decode cX9_findRows 78 = .ok (.iconst 2, 1) := dop_5 (dn_w dw172_4 14 rfl)
theorem dX9_findRows_79 : decode cX9_findRows 79 = .ok (.iadd, 1) := dop_96 (dn_w dw172_4 15 rfl)
theorem dX9_findRows_80 : decode cX9_findRows 80 = .ok (.aload_n 0, 1) := dop_42 (dn_w dw172_5 0 rfl)
theorem dX9_findRows_81 : decode cX9_findRows 81 = .ok (.invokevirtual 232, 3) := dop_182 (dn_w dw172_5 1 rfl) rfl
theorem dX9_findRows_84 : decode cX9_findRows 84 = .ok (.iastore, 1) := dop_79 (dn_w dw172_5 4 rfl)
theorem dX9_findRows_85 : decode cX9_findRows 85 = .ok (.aload_n 0, 1) := dop_42 (dn_w dw172_5 5 rfl)
theorem dX9_findRows_86 : decode cX9_findRows 86 = .ok (.dup, 1) := dop_89 (dn_w dw172_5 6 rfl)
theorem dX9_findRows_87 : decode cX9_findRows 87 = .ok (.getfield 257, 3) := dop_180 (dn_w dw172_5 7 rfl) rfl
theorem dX9_findRows_90 : decode cX9_findRows 90 = .ok (.iconst 1, 1) := dop_4 (dn_w dw172_5 10 rfl)
theorem dX9_findRows_91 : decode cX9_findRows 91 = .ok (.iadd, 1) := dop_96 (dn_w dw172_5 11 rfl)
theorem dX9_findRows_92 : decode cX9_findRows 92 = .ok (.putfield 257, 3) := dop_181 (dn_w dw172_5 12 rfl) rfl
theorem dX9_findRows_95 : decode cX9_findRows 95 = .ok (.goto (-86), 3) := dop_167 (dn_w dw172_5 15 rfl) rfl
theorem dX9_findRows_98 : decode cX9_findRows 98 = .ok (.aload_n 0, 1) := dop_42 (dn_w dw172_6 2 rfl)
theorem dX9_findRows_99 : decode cX9_findRows 99 = .ok (.iconst 0, 1) := dop_3 (dn_w dw172_6 3 rfl)
theorem dX9_findRows_100 : decode cX9_findRows 100 = .ok (.putfield 222, 3) := dop_181 (dn_w dw172_6 4 rfl) rfl
theorem dX9_findRows_103 : decode cX9_findRows 103 = .ok (.return_, 1) := dop_177 (dn_w dw172_6 7 rfl)
noncomputable def dt173_3 : List Nat := 79 :: 132 :: 2 :: 1 :: 167 :: 255 :: 231 :: 42 :: 180 :: 0 :: 199 :: 172 :: []
noncomputable def dt173_2 : List Nat := 199 :: 104 :: 162 :: 0 :: 21 :: 42 :: 180 :: 0 :: 53 :: 28 :: 42 :: 180 :: 0 :: 56 :: 28 :: 46 :: dt173_3
noncomputable def dt173_1 : List Nat := 4 :: 42 :: 42 :: 180 :: 1 :: 1 :: 181 :: 0 :: 199 :: 3 :: 61 :: 28 :: 6 :: 42 :: 180 :: 0 :: dt173_2
noncomputable def dt173_0 : List Nat := 27 :: 4 :: 16 :: 20 :: 184 :: 0 :: 87 :: 154 :: 0 :: 5 :: 2 :: 172 :: 42 :: 27 :: 182 :: 1 :: dt173_1
theorem dw173_0 : dn cX9_prove 0 = dt173_0 := by decide +kernel
theorem dw173_1 : dn cX9_prove 16 = dt173_1 := dn_w dw173_0 16 rfl
theorem dw173_2 : dn cX9_prove 32 = dt173_2 := dn_w dw173_1 16 rfl
theorem dw173_3 : dn cX9_prove 48 = dt173_3 := dn_w dw173_2 16 rfl
theorem dX9_prove_0 : decode cX9_prove 0 = .ok (.iload_n 1, 1) := dop_27 (dn_w dw173_0 0 rfl)
theorem dX9_prove_1 : decode cX9_prove 1 = .ok (.iconst 1, 1) := dop_4 (dn_w dw173_0 1 rfl)
theorem dX9_prove_2 : decode cX9_prove 2 = .ok (.bipush 20, 2) := dop_16 (dn_w dw173_0 2 rfl) rfl
theorem dX9_prove_4 : decode cX9_prove 4 = .ok (.invokestatic 87, 3) := dop_184 (dn_w dw173_0 4 rfl) rfl
theorem dX9_prove_7 : decode cX9_prove 7 = .ok (.ifCond .ne 5, 3) := dop_154 (dn_w dw173_0 7 rfl) rfl
theorem dX9_prove_10 : decode cX9_prove 10 = .ok (.iconst (-1), 1) := dop_2 (dn_w dw173_0 10 rfl)
theorem dX9_prove_11 : decode cX9_prove 11 = .ok (.ireturn, 1) := dop_172 (dn_w dw173_0 11 rfl)
theorem dX9_prove_12 : decode cX9_prove 12 = .ok (.aload_n 0, 1) := dop_42 (dn_w dw173_0 12 rfl)
theorem dX9_prove_13 : decode cX9_prove 13 = .ok (.iload_n 1, 1) := dop_27 (dn_w dw173_0 13 rfl)
theorem dX9_prove_14 : decode cX9_prove 14 = .ok (.invokevirtual 260, 3) := dop_182 (dn_w dw173_0 14 rfl) rfl
theorem dX9_prove_17 : decode cX9_prove 17 = .ok (.aload_n 0, 1) := dop_42 (dn_w dw173_1 1 rfl)
theorem dX9_prove_18 : decode cX9_prove 18 = .ok (.aload_n 0, 1) := dop_42 (dn_w dw173_1 2 rfl)
theorem dX9_prove_19 : decode cX9_prove 19 = .ok (.getfield 257, 3) := dop_180 (dn_w dw173_1 3 rfl) rfl
theorem dX9_prove_22 : decode cX9_prove 22 = .ok (.putfield 199, 3) := dop_181 (dn_w dw173_1 6 rfl) rfl
theorem dX9_prove_25 : decode cX9_prove 25 = .ok (.iconst 0, 1) := dop_3 (dn_w dw173_1 9 rfl)
theorem dX9_prove_26 : decode cX9_prove 26 = .ok (.istore_n 2, 1) := dop_61 (dn_w dw173_1 10 rfl)
theorem dX9_prove_27 : decode cX9_prove 27 = .ok (.iload_n 2, 1) := dop_28 (dn_w dw173_1 11 rfl)
theorem dX9_prove_28 : decode cX9_prove 28 = .ok (.iconst 3, 1) := dop_6 (dn_w dw173_1 12 rfl)
theorem dX9_prove_29 : decode cX9_prove 29 = .ok (.aload_n 0, 1) := dop_42 (dn_w dw173_1 13 rfl)
theorem dX9_prove_30 : decode cX9_prove 30 = .ok (.getfield 199, 3) := dop_180 (dn_w dw173_1 14 rfl) rfl
theorem dX9_prove_33 : decode cX9_prove 33 = .ok (.imul, 1) := dop_104 (dn_w dw173_2 1 rfl)
theorem dX9_prove_34 : decode cX9_prove 34 = .ok (.if_icmp .ge 21, 3) := dop_162 (dn_w dw173_2 2 rfl) rfl
theorem dX9_prove_37 : decode cX9_prove 37 = .ok (.aload_n 0, 1) := dop_42 (dn_w dw173_2 5 rfl)
theorem dX9_prove_38 : decode cX9_prove 38 = .ok (.getfield 53, 3) := dop_180 (dn_w dw173_2 6 rfl) rfl
theorem dX9_prove_41 : decode cX9_prove 41 = .ok (.iload_n 2, 1) := dop_28 (dn_w dw173_2 9 rfl)
theorem dX9_prove_42 : decode cX9_prove 42 = .ok (.aload_n 0, 1) := dop_42 (dn_w dw173_2 10 rfl)
theorem dX9_prove_43 : decode cX9_prove 43 = .ok (.getfield 56, 3) := dop_180 (dn_w dw173_2 11 rfl) rfl
theorem dX9_prove_46 : decode cX9_prove 46 = .ok (.iload_n 2, 1) := dop_28 (dn_w dw173_2 14 rfl)
theorem dX9_prove_47 : decode cX9_prove 47 = .ok (.iaload, 1) := dop_46 (dn_w dw173_2 15 rfl)
theorem dX9_prove_48 : decode cX9_prove 48 = .ok (.iastore, 1) := dop_79 (dn_w dw173_3 0 rfl)
theorem dX9_prove_49 : decode cX9_prove 49 = .ok (.iinc 2 1, 3) := dop_132 (dn_w dw173_3 1 rfl) rfl
theorem dX9_prove_52 : decode cX9_prove 52 = .ok (.goto (-25), 3) := dop_167 (dn_w dw173_3 4 rfl) rfl
theorem dX9_prove_55 : decode cX9_prove 55 = .ok (.aload_n 0, 1) := dop_42 (dn_w dw173_3 7 rfl)
theorem dX9_prove_56 : decode cX9_prove 56 = .ok (.getfield 199, 3) := dop_180 (dn_w dw173_3 8 rfl) rfl
theorem dX9_prove_59 : decode cX9_prove 59 = .ok (.ireturn, 1) := dop_172 (dn_w dw173_3 11 rfl)
noncomputable def dt174_1 : List Nat := 5 :: 184 :: 0 :: 87 :: 153 :: 0 :: 7 :: 4 :: 167 :: 0 :: 4 :: 3 :: 172 :: []
noncomputable def dt174_0 : List Nat := 27 :: 3 :: 42 :: 180 :: 0 :: 199 :: 4 :: 100 :: 184 :: 0 :: 87 :: 153 :: 0 :: 16 :: 28 :: 3 :: dt174_1
theorem dw174_0 : dn cX9_isRow 0 = dt174_0 := by decide +kernel
theorem dw174_1 : dn cX9_isRow 16 = dt174_1 := dn_w dw174_0 16 rfl
theorem dX9_isRow_0 : decode cX9_isRow 0 = .ok (.iload_n 1, 1) := dop_27 (dn_w dw174_0 0 rfl)
theorem dX9_isRow_1 : decode cX9_isRow 1 = .ok (.iconst 0, 1) := dop_3 (dn_w dw174_0 1 rfl)
theorem dX9_isRow_2 : decode cX9_isRow 2 = .ok (.aload_n 0, 1) := dop_42 (dn_w dw174_0 2 rfl)
theorem dX9_isRow_3 : decode cX9_isRow 3 = .ok (.getfield 199, 3) := dop_180 (dn_w dw174_0 3 rfl) rfl
theorem dX9_isRow_6 : decode cX9_isRow 6 = .ok (.iconst 1, 1) := dop_4 (dn_w dw174_0 6 rfl)
theorem dX9_isRow_7 : decode cX9_isRow 7 = .ok (.isub, 1) := dop_100 (dn_w dw174_0 7 rfl)
theorem dX9_isRow_8 : decode cX9_isRow 8 = .ok (.invokestatic 87, 3) := dop_184 (dn_w dw174_0 8 rfl) rfl
theorem dX9_isRow_11 : decode cX9_isRow 11 = .ok (.ifCond .eq 16, 3) := dop_153 (dn_w dw174_0 11 rfl) rfl
theorem dX9_isRow_14 : decode cX9_isRow 14 = .ok (.iload_n 2, 1) := dop_28 (dn_w dw174_0 14 rfl)
theorem dX9_isRow_15 : decode cX9_isRow 15 = .ok (.iconst 0, 1) := dop_3 (dn_w dw174_0 15 rfl)
theorem dX9_isRow_16 : decode cX9_isRow 16 = .ok (.iconst 2, 1) := dop_5 (dn_w dw174_1 0 rfl)
theorem dX9_isRow_17 : decode cX9_isRow 17 = .ok (.invokestatic 87, 3) := dop_184 (dn_w dw174_1 1 rfl) rfl
theorem dX9_isRow_20 : decode cX9_isRow 20 = .ok (.ifCond .eq 7, 3) := dop_153 (dn_w dw174_1 4 rfl) rfl
theorem dX9_isRow_23 : decode cX9_isRow 23 = .ok (.iconst 1, 1) := dop_4 (dn_w dw174_1 7 rfl)
theorem dX9_isRow_24 : decode cX9_isRow 24 = .ok (.goto 4, 3) := dop_167 (dn_w dw174_1 8 rfl) rfl
theorem dX9_isRow_27 : decode cX9_isRow 27 = .ok (.iconst 0, 1) := dop_3 (dn_w dw174_1 11 rfl)
theorem dX9_isRow_28 : decode cX9_isRow 28 = .ok (.ireturn, 1) := dop_172 (dn_w dw174_1 12 rfl)
noncomputable def dt175_1 : List Nat := 28 :: 96 :: 46 :: 167 :: 0 :: 5 :: 16 :: 247 :: 172 :: []
noncomputable def dt175_0 : List Nat := 42 :: 27 :: 28 :: 182 :: 1 :: 7 :: 153 :: 0 :: 16 :: 42 :: 180 :: 0 :: 53 :: 6 :: 27 :: 104 :: dt175_1
theorem dw175_0 : dn cX9_row 0 = dt175_0 := by decide +kernel
theorem dw175_1 : dn cX9_row 16 = dt175_1 := dn_w dw175_0 16 rfl
theorem dX9_row_0 : decode cX9_row 0 = .ok (.aload_n 0, 1) := dop_42 (dn_w dw175_0 0 rfl)
theorem dX9_row_1 : decode cX9_row 1 = .ok (.iload_n 1, 1) := dop_27 (dn_w dw175_0 1 rfl)
theorem dX9_row_2 : decode cX9_row 2 = .ok (.iload_n 2, 1) := dop_28 (dn_w dw175_0 2 rfl)
theorem dX9_row_3 : decode cX9_row 3 = .ok (.invokevirtual 263, 3) := dop_182 (dn_w dw175_0 3 rfl) rfl
theorem dX9_row_6 : decode cX9_row 6 = .ok (.ifCond .eq 16, 3) := dop_153 (dn_w dw175_0 6 rfl) rfl
theorem dX9_row_9 : decode cX9_row 9 = .ok (.aload_n 0, 1) := dop_42 (dn_w dw175_0 9 rfl)
theorem dX9_row_10 : decode cX9_row 10 = .ok (.getfield 53, 3) := dop_180 (dn_w dw175_0 10 rfl) rfl
theorem dX9_row_13 : decode cX9_row 13 = .ok (.iconst 3, 1) := dop_6 (dn_w dw175_0 13 rfl)
theorem dX9_row_14 : decode cX9_row 14 = .ok (.iload_n 1, 1) := dop_27 (dn_w dw175_0 14 rfl)
theorem dX9_row_15 : decode cX9_row 15 = .ok (.imul, 1) := dop_104 (dn_w dw175_0 15 rfl)
theorem dX9_row_16 : decode cX9_row 16 = .ok (.iload_n 2, 1) := dop_28 (dn_w dw175_1 0 rfl)
theorem dX9_row_17 : decode cX9_row 17 = .ok (.iadd, 1) := dop_96 (dn_w dw175_1 1 rfl)
theorem dX9_row_18 : decode cX9_row 18 = .ok (.iaload, 1) := dop_46 (dn_w dw175_1 2 rfl)
theorem dX9_row_19 : decode cX9_row 19 = .ok (.goto 5, 3) := dop_167 (dn_w dw175_1 3 rfl) rfl
theorem dX9_row_22 : decode cX9_row 22 = .ok (.bipush (-9), 2) := dop_16 (dn_w dw175_1 6 rfl) rfl
theorem dX9_row_24 : decode cX9_row 24 = .ok (.ireturn, 1) := dop_172 (dn_w dw175_1 8 rfl)
noncomputable def dt176_2 : List Nat := 96 :: 29 :: 79 :: 21 :: 4 :: 172 :: []
noncomputable def dt176_1 : List Nat := 6 :: 27 :: 104 :: 28 :: 96 :: 46 :: 54 :: 4 :: 42 :: 180 :: 0 :: 53 :: 6 :: 27 :: 104 :: 28 :: dt176_2
noncomputable def dt176_0 : List Nat := 42 :: 27 :: 28 :: 182 :: 1 :: 7 :: 154 :: 0 :: 6 :: 16 :: 247 :: 172 :: 42 :: 180 :: 0 :: 53 :: dt176_1
theorem dw176_0 : dn cX9_alterRow 0 = dt176_0 := by decide +kernel
theorem dw176_1 : dn cX9_alterRow 16 = dt176_1 := dn_w dw176_0 16 rfl
theorem dw176_2 : dn cX9_alterRow 32 = dt176_2 := dn_w dw176_1 16 rfl
theorem dX9_alterRow_0 : decode cX9_alterRow 0 = .ok (.aload_n 0, 1) := dop_42 (dn_w dw176_0 0 rfl)
theorem dX9_alterRow_1 : decode cX9_alterRow 1 = .ok (.iload_n 1, 1) := dop_27 (dn_w dw176_0 1 rfl)
theorem dX9_alterRow_2 : decode cX9_alterRow 2 = .ok (.iload_n 2, 1) := dop_28 (dn_w dw176_0 2 rfl)
theorem dX9_alterRow_3 : decode cX9_alterRow 3 = .ok (.invokevirtual 263, 3) := dop_182 (dn_w dw176_0 3 rfl) rfl
theorem dX9_alterRow_6 : decode cX9_alterRow 6 = .ok (.ifCond .ne 6, 3) := dop_154 (dn_w dw176_0 6 rfl) rfl
theorem dX9_alterRow_9 : decode cX9_alterRow 9 = .ok (.bipush (-9), 2) := dop_16 (dn_w dw176_0 9 rfl) rfl
theorem dX9_alterRow_11 : decode cX9_alterRow 11 = .ok (.ireturn, 1) := dop_172 (dn_w dw176_0 11 rfl)
theorem dX9_alterRow_12 : decode cX9_alterRow 12 = .ok (.aload_n 0, 1) := dop_42 (dn_w dw176_0 12 rfl)
theorem dX9_alterRow_13 : decode cX9_alterRow 13 = .ok (.getfield 53, 3) := dop_180 (dn_w dw176_0 13 rfl) rfl
theorem dX9_alterRow_16 : decode cX9_alterRow 16 = .ok (.iconst 3, 1) := dop_6 (dn_w dw176_1 0 rfl)
theorem dX9_alterRow_17 : decode cX9_alterRow 17 = .ok (.iload_n 1, 1) := dop_27 (dn_w dw176_1 1 rfl)
theorem dX9_alterRow_18 : decode cX9_alterRow 18 = .ok (.imul, 1) := dop_104 (dn_w dw176_1 2 rfl)
theorem dX9_alterRow_19 : decode cX9_alterRow 19 = .ok (.iload_n 2, 1) := dop_28 (dn_w dw176_1 3 rfl)
theorem dX9_alterRow_20 : decode cX9_alterRow 20 = .ok (.iadd, 1) := dop_96 (dn_w dw176_1 4 rfl)
theorem dX9_alterRow_21 : decode cX9_alterRow 21 = .ok (.iaload, 1) := dop_46 (dn_w dw176_1 5 rfl)
theorem dX9_alterRow_22 : decode cX9_alterRow 22 = .ok (.istore 4, 2) := dop_54 (dn_w dw176_1 6 rfl)
theorem dX9_alterRow_24 : decode cX9_alterRow 24 = .ok (.aload_n 0, 1) := dop_42 (dn_w dw176_1 8 rfl)
theorem dX9_alterRow_25 : decode cX9_alterRow 25 = .ok (.getfield 53, 3) := dop_180 (dn_w dw176_1 9 rfl) rfl
theorem dX9_alterRow_28 : decode cX9_alterRow 28 = .ok (.iconst 3, 1) := dop_6 (dn_w dw176_1 12 rfl)
theorem dX9_alterRow_29 : decode cX9_alterRow 29 = .ok (.iload_n 1, 1) := dop_27 (dn_w dw176_1 13 rfl)
theorem dX9_alterRow_30 : decode cX9_alterRow 30 = .ok (.imul, 1) := dop_104 (dn_w dw176_1 14 rfl)
theorem dX9_alterRow_31 : decode cX9_alterRow 31 = .ok (.iload_n 2, 1) := dop_28 (dn_w dw176_1 15 rfl)
theorem dX9_alterRow_32 : decode cX9_alterRow 32 = .ok (.iadd, 1) := dop_96 (dn_w dw176_2 0 rfl)
theorem dX9_alterRow_33 : decode cX9_alterRow 33 = .ok (.iload_n 3, 1) := dop_29 (dn_w dw176_2 1 rfl)
theorem dX9_alterRow_34 : decode cX9_alterRow 34 = .ok (.iastore, 1) := dop_79 (dn_w dw176_2 2 rfl)
theorem dX9_alterRow_35 : decode cX9_alterRow 35 = .ok (.iload 4, 2) := dop_21 (dn_w dw176_2 3 rfl)
theorem dX9_alterRow_37 : decode cX9_alterRow 37 = .ok (.ireturn, 1) := dop_172 (dn_w dw176_2 5 rfl)
noncomputable def dt177_5 : List Nat := 0 :: 7 :: 27 :: 4 :: 96 :: 172 :: 132 :: 1 :: 1 :: 167 :: 255 :: 177 :: 3 :: 172 :: []
noncomputable def dt177_4 : List Nat := 0 :: 7 :: 4 :: 167 :: 0 :: 4 :: 3 :: 61 :: 132 :: 3 :: 1 :: 167 :: 255 :: 215 :: 28 :: 154 :: dt177_5
noncomputable def dt177_3 : List Nat := 27 :: 104 :: 29 :: 96 :: 46 :: 42 :: 180 :: 0 :: 56 :: 6 :: 27 :: 104 :: 29 :: 96 :: 46 :: 160 :: dt177_4
noncomputable def dt177_2 : List Nat := 3 :: 62 :: 29 :: 6 :: 162 :: 0 :: 42 :: 28 :: 153 :: 0 :: 38 :: 42 :: 180 :: 0 :: 53 :: 6 :: dt177_3
noncomputable def dt177_1 : List Nat := 0 :: 77 :: 27 :: 42 :: 180 :: 1 :: 1 :: 162 :: 0 :: 7 :: 4 :: 167 :: 0 :: 4 :: 3 :: 61 :: dt177_2
noncomputable def dt177_0 : List Nat := 42 :: 42 :: 180 :: 0 :: 199 :: 182 :: 1 :: 4 :: 3 :: 60 :: 27 :: 42 :: 180 :: 0 :: 199 :: 162 :: dt177_1
theorem dw177_0 : dn cX9_judge 0 = dt177_0 := by decide +kernel
theorem dw177_1 : dn cX9_judge 16 = dt177_1 := dn_w dw177_0 16 rfl
theorem dw177_2 : dn cX9_judge 32 = dt177_2 := dn_w dw177_1 16 rfl
theorem dw177_3 : dn cX9_judge 48 = dt177_3 := dn_w dw177_2 16 rfl
theorem dw177_4 : dn cX9_judge 64 = dt177_4 := dn_w dw177_3 16 rfl
theorem dw177_5 : dn cX9_judge 80 = dt177_5 := dn_w dw177_4 16 rfl
theorem dX9_judge_0 : decode cX9_judge 0 = .ok (.aload_n 0, 1) := dop_42 (dn_w dw177_0 0 rfl)
theorem dX9_judge_1 : decode cX9_judge 1 = .ok (.aload_n 0, 1) := dop_42 (dn_w dw177_0 1 rfl)
theorem dX9_judge_2 : decode cX9_judge 2 = .ok (.getfield 199, 3) := dop_180 (dn_w dw177_0 2 rfl) rfl
theorem dX9_judge_5 : decode cX9_judge 5 = .ok (.invokevirtual 260, 3) := dop_182 (dn_w dw177_0 5 rfl) rfl
theorem dX9_judge_8 : decode cX9_judge 8 = .ok (.iconst 0, 1) := dop_3 (dn_w dw177_0 8 rfl)
theorem dX9_judge_9 : decode cX9_judge 9 = .ok (.istore_n 1, 1) := dop_60 (dn_w dw177_0 9 rfl)
theorem dX9_judge_10 : decode cX9_judge 10 = .ok (.iload_n 1, 1) := dop_27 (dn_w dw177_0 10 rfl)
theorem dX9_judge_11 : decode cX9_judge 11 = .ok (.aload_n 0, 1) := dop_42 (dn_w dw177_0 11 rfl)
theorem dX9_judge_12 : decode cX9_judge 12 = .ok (.getfield 199, 3) := dop_180 (dn_w dw177_0 12 rfl) rfl
theorem dX9_judge_15 : decode cX9_judge 15 = .ok (.if_icmp .ge 77, 3) := dop_162 (dn_w dw177_0 15 rfl) rfl
theorem dX9_judge_18 : decode cX9_judge 18 = .ok (.iload_n 1, 1) := dop_27 (dn_w dw177_1 2 rfl)
theorem dX9_judge_19 : decode cX9_judge 19 = .ok (.aload_n 0, 1) := dop_42 (dn_w dw177_1 3 rfl)
theorem dX9_judge_20 : decode cX9_judge 20 = .ok (.getfield 257, 3) := dop_180 (dn_w dw177_1 4 rfl) rfl
theorem dX9_judge_23 : decode cX9_judge 23 = .ok (.if_icmp .ge 7, 3) := dop_162 (dn_w dw177_1 7 rfl) rfl
theorem dX9_judge_26 : decode cX9_judge 26 = .ok (.iconst 1, 1) := dop_4 (dn_w dw177_1 10 rfl)
theorem dX9_judge_27 : decode cX9_judge 27 = .ok (.goto 4, 3) := dop_167 (dn_w dw177_1 11 rfl) rfl
theorem dX9_judge_30 : decode cX9_judge 30 = .ok (.iconst 0, 1) := dop_3 (dn_w dw177_1 14 rfl)
theorem dX9_judge_31 : decode cX9_judge 31 = .ok (.istore_n 2, 1) := dop_61 (dn_w dw177_1 15 rfl)
theorem dX9_judge_32 : decode cX9_judge 32 = .ok (.iconst 0, 1) := dop_3 (dn_w dw177_2 0 rfl)
theorem dX9_judge_33 : decode cX9_judge 33 = .ok (.istore_n 3, 1) := dop_62 (dn_w dw177_2 1 rfl)
theorem dX9_judge_34 : decode cX9_judge 34 = .ok (.iload_n 3, 1) := dop_29 (dn_w dw177_2 2 rfl)
theorem dX9_judge_35 : decode cX9_judge 35 = .ok (.iconst 3, 1) := dop_6 (dn_w dw177_2 3 rfl)
theorem dX9_judge_36 : decode cX9_judge 36 = .ok (.if_icmp .ge 42, 3) := dop_162 (dn_w dw177_2 4 rfl) rfl
theorem dX9_judge_39 : decode cX9_judge 39 = .ok (.iload_n 2, 1) := dop_28 (dn_w dw177_2 7 rfl)
theorem dX9_judge_40 : decode cX9_judge 40 = .ok (.ifCond .eq 38, 3) := dop_153 (dn_w dw177_2 8 rfl) rfl
theorem dX9_judge_43 : decode cX9_judge 43 = .ok (.aload_n 0, 1) := dop_42 (dn_w dw177_2 11 rfl)
theorem dX9_judge_44 : decode cX9_judge 44 = .ok (.getfield 53, 3) := dop_180 (dn_w dw177_2 12 rfl) rfl
theorem dX9_judge_47 : decode cX9_judge 47 = .ok (.iconst 3, 1) := dop_6 (dn_w dw177_2 15 rfl)
theorem dX9_judge_48 : decode cX9_judge 48 = .ok (.iload_n 1, 1) := dop_27 (dn_w dw177_3 0 rfl)
theorem dX9_judge_49 : decode cX9_judge 49 = .ok (.imul, 1) := dop_104 (dn_w dw177_3 1 rfl)
theorem dX9_judge_50 : decode cX9_judge 50 = .ok (.iload_n 3, 1) := dop_29 (dn_w dw177_3 2 rfl)
theorem dX9_judge_51 : decode cX9_judge 51 = .ok (.iadd, 1) := dop_96 (dn_w dw177_3 3 rfl)
theorem dX9_judge_52 : decode cX9_judge 52 = .ok (.iaload, 1) := dop_46 (dn_w dw177_3 4 rfl)
theorem dX9_judge_53 : decode cX9_judge 53 = .ok (.aload_n 0, 1) := dop_42 (dn_w dw177_3 5 rfl)
theorem dX9_judge_54 : decode cX9_judge 54 = .ok (.getfield 56, 3) := dop_180 (dn_w dw177_3 6 rfl) rfl
theorem dX9_judge_57 : decode cX9_judge 57 = .ok (.iconst 3, 1) := dop_6 (dn_w dw177_3 9 rfl)
theorem dX9_judge_58 : decode cX9_judge 58 = .ok (.iload_n 1, 1) := dop_27 (dn_w dw177_3 10 rfl)
theorem dX9_judge_59 : decode cX9_judge 59 = .ok (.imul, 1) := dop_104 (dn_w dw177_3 11 rfl)
theorem dX9_judge_60 : decode cX9_judge 60 = .ok (.iload_n 3, 1) := dop_29 (dn_w dw177_3 12 rfl)
theorem dX9_judge_61 : decode cX9_judge 61 = .ok (.iadd, 1) := dop_96 (dn_w dw177_3 13 rfl)
theorem dX9_judge_62 : decode cX9_judge 62 = .ok (.iaload, 1) := dop_46 (dn_w dw177_3 14 rfl)
theorem dX9_judge_63 : decode cX9_judge 63 = .ok (.if_icmp .ne 7, 3) := dop_160 (dn_w dw177_3 15 rfl) rfl
theorem dX9_judge_66 : decode cX9_judge 66 = .ok (.iconst 1, 1) := dop_4 (dn_w dw177_4 2 rfl)
theorem dX9_judge_67 : decode cX9_judge 67 = .ok (.goto 4, 3) := dop_167 (dn_w dw177_4 3 rfl) rfl
theorem dX9_judge_70 : decode cX9_judge 70 = .ok (.iconst 0, 1) := dop_3 (dn_w dw177_4 6 rfl)
theorem dX9_judge_71 : decode cX9_judge 71 = .ok (.istore_n 2, 1) := dop_61 (dn_w dw177_4 7 rfl)
theorem dX9_judge_72 : decode cX9_judge 72 = .ok (.iinc 3 1, 3) := dop_132 (dn_w dw177_4 8 rfl) rfl
theorem dX9_judge_75 : decode cX9_judge 75 = .ok (.goto (-41), 3) := dop_167 (dn_w dw177_4 11 rfl) rfl
theorem dX9_judge_78 : decode cX9_judge 78 = .ok (.iload_n 2, 1) := dop_28 (dn_w dw177_4 14 rfl)
theorem dX9_judge_79 : decode cX9_judge 79 = .ok (.ifCond .ne 7, 3) := dop_154 (dn_w dw177_4 15 rfl) rfl
theorem dX9_judge_82 : decode cX9_judge 82 = .ok (.iload_n 1, 1) := dop_27 (dn_w dw177_5 2 rfl)
theorem dX9_judge_83 : decode cX9_judge 83 = .ok (.iconst 1, 1) := dop_4 (dn_w dw177_5 3 rfl)
theorem dX9_judge_84 : decode cX9_judge 84 = .ok (.iadd, 1) := dop_96 (dn_w dw177_5 4 rfl)
theorem dX9_judge_85 : decode cX9_judge 85 = .ok (.ireturn, 1) := dop_172 (dn_w dw177_5 5 rfl)
theorem dX9_judge_86 : decode cX9_judge 86 = .ok (.iinc 1 1, 3) := dop_132 (dn_w dw177_5 6 rfl) rfl
theorem dX9_judge_89 : decode cX9_judge 89 = .ok (.goto (-79), 3) := dop_167 (dn_w dw177_5 9 rfl) rfl
theorem dX9_judge_92 : decode cX9_judge 92 = .ok (.iconst 0, 1) := dop_3 (dn_w dw177_5 12 rfl)
theorem dX9_judge_93 : decode cX9_judge 93 = .ok (.ireturn, 1) := dop_172 (dn_w dw177_5 13 rfl)
noncomputable def dt178_7 : List Nat := 1 :: 167 :: 255 :: 218 :: 21 :: 4 :: 172 :: []
noncomputable def dt178_6 : List Nat := 27 :: 104 :: 28 :: 96 :: 21 :: 6 :: 96 :: 47 :: 20 :: 1 :: 16 :: 127 :: 136 :: 79 :: 132 :: 6 :: dt178_7
noncomputable def dt178_5 : List Nat := 0 :: 37 :: 42 :: 180 :: 0 :: 16 :: 29 :: 21 :: 6 :: 96 :: 42 :: 180 :: 0 :: 65 :: 16 :: 40 :: dt178_6
noncomputable def dt178_4 : List Nat := 4 :: 100 :: 164 :: 0 :: 6 :: 16 :: 244 :: 172 :: 3 :: 54 :: 6 :: 21 :: 6 :: 21 :: 4 :: 162 :: dt178_5
noncomputable def dt178_3 : List Nat := 6 :: 21 :: 5 :: 172 :: 28 :: 155 :: 0 :: 16 :: 28 :: 42 :: 180 :: 0 :: 62 :: 27 :: 46 :: 21 :: dt178_4
noncomputable def dt178_2 : List Nat := 0 :: 5 :: 2 :: 172 :: 42 :: 27 :: 3 :: 182 :: 1 :: 13 :: 54 :: 5 :: 21 :: 5 :: 153 :: 0 :: dt178_3
noncomputable def dt178_1 : List Nat := 3 :: 16 :: 40 :: 184 :: 0 :: 87 :: 153 :: 0 :: 12 :: 29 :: 21 :: 4 :: 96 :: 16 :: 40 :: 164 :: dt178_2
noncomputable def dt178_0 : List Nat := 27 :: 184 :: 1 :: 10 :: 153 :: 0 :: 30 :: 29 :: 184 :: 0 :: 212 :: 153 :: 0 :: 23 :: 21 :: 4 :: dt178_1
theorem dw178_0 : dn cX9_events 0 = dt178_0 := by decide +kernel
theorem dw178_1 : dn cX9_events 16 = dt178_1 := dn_w dw178_0 16 rfl
theorem dw178_2 : dn cX9_events 32 = dt178_2 := dn_w dw178_1 16 rfl
theorem dw178_3 : dn cX9_events 48 = dt178_3 := dn_w dw178_2 16 rfl
theorem dw178_4 : dn cX9_events 64 = dt178_4 := dn_w dw178_3 16 rfl
theorem dw178_5 : dn cX9_events 80 = dt178_5 := dn_w dw178_4 16 rfl
theorem dw178_6 : dn cX9_events 96 = dt178_6 := dn_w dw178_5 16 rfl
theorem dw178_7 : dn cX9_events 112 = dt178_7 := dn_w dw178_6 16 rfl
theorem dX9_events_0 : decode cX9_events 0 = .ok (.iload_n 1, 1) := dop_27 (dn_w dw178_0 0 rfl)
theorem dX9_events_1 : decode cX9_events 1 = .ok (.invokestatic 266, 3) := dop_184 (dn_w dw178_0 1 rfl) rfl
theorem dX9_events_4 : decode cX9_events 4 = .ok (.ifCond .eq 30, 3) := dop_153 (dn_w dw178_0 4 rfl) rfl
theorem dX9_events_7 : decode cX9_events 7 = .ok (.iload_n 3, 1) := dop_29 (dn_w dw178_0 7 rfl)
theorem dX9_events_8 : decode cX9_events 8 = .ok (.invokestatic 212, 3) := dop_184 (dn_w dw178_0 8 rfl) rfl
theorem dX9_events_11 : decode cX9_events 11 = .ok (.ifCond .eq 23, 3) := dop_153 (dn_w dw178_0 11 rfl) rfl
theorem dX9_events_14 : decode cX9_events 14 = .ok (.iload 4, 2) := dop_21 (dn_w dw178_0 14 rfl)
theorem dX9_events_16 : decode cX9_events 16 = .ok (.iconst 0, 1) := dop_3 (dn_w dw178_1 0 rfl)
theorem dX9_events_17 : decode cX9_events 17 = .ok (.bipush 40, 2) := dop_16 (dn_w dw178_1 1 rfl) rfl
theorem dX9_events_19 : decode cX9_events 19 = .ok (.invokestatic 87, 3) := dop_184 (dn_w dw178_1 3 rfl) rfl
theorem dX9_events_22 : decode cX9_events 22 = .ok (.ifCond .eq 12, 3) := dop_153 (dn_w dw178_1 6 rfl) rfl
theorem dX9_events_25 : decode cX9_events 25 = .ok (.iload_n 3, 1) := dop_29 (dn_w dw178_1 9 rfl)
theorem dX9_events_26 : decode cX9_events 26 = .ok (.iload 4, 2) := dop_21 (dn_w dw178_1 10 rfl)
theorem dX9_events_28 : decode cX9_events 28 = .ok (.iadd, 1) := dop_96 (dn_w dw178_1 12 rfl)
theorem dX9_events_29 : decode cX9_events 29 = .ok (.bipush 40, 2) := dop_16 (dn_w dw178_1 13 rfl) rfl
theorem dX9_events_31 : decode cX9_events 31 = .ok (.if_icmp .le 5, 3) := dop_164 (dn_w dw178_1 15 rfl) rfl
theorem dX9_events_34 : decode cX9_events 34 = .ok (.iconst (-1), 1) := dop_2 (dn_w dw178_2 2 rfl)
theorem dX9_events_35 : decode cX9_events 35 = .ok (.ireturn, 1) := dop_172 (dn_w dw178_2 3 rfl)
theorem dX9_events_36 : decode cX9_events 36 = .ok (.aload_n 0, 1) := dop_42 (dn_w dw178_2 4 rfl)
theorem dX9_events_37 : decode cX9_events 37 = .ok (.iload_n 1, 1) := dop_27 (dn_w dw178_2 5 rfl)
theorem dX9_events_38 : decode cX9_events 38 = .ok (.iconst 0, 1) := dop_3 (dn_w dw178_2 6 rfl)
theorem dX9_events_39 : decode cX9_events 39 = .ok (.invokevirtual 269, 3) := dop_182 (dn_w dw178_2 7 rfl) rfl
theorem dX9_events_42 : decode cX9_events 42 = .ok (.istore 5, 2) := dop_54 (dn_w dw178_2 10 rfl)
theorem dX9_events_44 : decode cX9_events 44 = .ok (.iload 5, 2) := dop_21 (dn_w dw178_2 12 rfl)
theorem dX9_events_46 : decode cX9_events 46 = .ok (.ifCond .eq 6, 3) := dop_153 (dn_w dw178_2 14 rfl) rfl
theorem dX9_events_49 : decode cX9_events 49 = .ok (.iload 5, 2) := dop_21 (dn_w dw178_3 1 rfl)
theorem dX9_events_51 : decode cX9_events 51 = .ok (.ireturn, 1) := dop_172 (dn_w dw178_3 3 rfl)
theorem dX9_events_52 : decode cX9_events 52 = .ok (.iload_n 2, 1) := dop_28 (dn_w dw178_3 4 rfl)
theorem dX9_events_53 : decode cX9_events 53 = .ok (.ifCond .lt 16, 3) := dop_155 (dn_w dw178_3 5 rfl) rfl
theorem dX9_events_56 : decode cX9_events 56 = .ok (.iload_n 2, 1) := dop_28 (dn_w dw178_3 8 rfl)
theorem dX9_events_57 : decode cX9_events 57 = .ok (.aload_n 0, 1) := dop_42 (dn_w dw178_3 9 rfl)
theorem dX9_events_58 : decode cX9_events 58 = .ok (.getfield 62, 3) := dop_180 (dn_w dw178_3 10 rfl) rfl
theorem dX9_events_61 : decode cX9_events 61 = .ok (.iload_n 1, 1) := dop_27 (dn_w dw178_3 13 rfl)
theorem dX9_events_62 : decode cX9_events 62 = .ok (.iaload, 1) := dop_46 (dn_w dw178_3 14 rfl)
theorem dX9_events_63 : decode cX9_events 63 = .ok (.iload 4, 2) := dop_21 (dn_w dw178_3 15 rfl)
theorem dX9_events_65 : decode cX9_events 65 = .ok (.isub, 1) := dop_100 (dn_w dw178_4 1 rfl)
theorem dX9_events_66 : decode cX9_events 66 = .ok (.if_icmp .le 6, 3) := dop_164 (dn_w dw178_4 2 rfl) rfl
theorem dX9_events_69 : decode cX9_events 69 = .ok (.bipush (-12), 2) := dop_16 (dn_w dw178_4 5 rfl) rfl
theorem dX9_events_71 : decode cX9_events 71 = .ok (.ireturn, 1) := dop_172 (dn_w dw178_4 7 rfl)
theorem dX9_events_72 : decode cX9_events 72 = .ok (.iconst 0, 1) := dop_3 (dn_w dw178_4 8 rfl)
theorem dX9_events_73 : decode cX9_events 73 = .ok (.istore 6, 2) := dop_54 (dn_w dw178_4 9 rfl)
theorem dX9_events_75 : decode cX9_events 75 = .ok (.iload 6, 2) := dop_21 (dn_w dw178_4 11 rfl)
theorem dX9_events_77 : decode cX9_events 77 = .ok (.iload 4, 2) := dop_21 (dn_w dw178_4 13 rfl)
theorem dX9_events_79 : decode cX9_events 79 = .ok (.if_icmp .ge 37, 3) := dop_162 (dn_w dw178_4 15 rfl) rfl
theorem dX9_events_82 : decode cX9_events 82 = .ok (.aload_n 0, 1) := dop_42 (dn_w dw178_5 2 rfl)
theorem dX9_events_83 : decode cX9_events 83 = .ok (.getfield 16, 3) := dop_180 (dn_w dw178_5 3 rfl) rfl
theorem dX9_events_86 : decode cX9_events 86 = .ok (.iload_n 3, 1) := dop_29 (dn_w dw178_5 6 rfl)
theorem dX9_events_87 : decode cX9_events 87 = .ok (.iload 6, 2) := dop_21 (dn_w dw178_5 7 rfl)
theorem dX9_events_89 : decode cX9_events 89 = .ok (.iadd, 1) := dop_96 (dn_w dw178_5 9 rfl)
theorem dX9_events_90 : decode cX9_events 90 = .ok (.aload_n 0, 1) := dop_42 (dn_w dw178_5 10 rfl)
theorem dX9_events_91 : decode cX9_events 91 = .ok (.getfield 65, 3) := dop_180 (dn_w dw178_5 11 rfl) rfl
theorem dX9_events_94 : decode cX9_events 94 = .ok (.bipush 40, 2) := dop_16 (dn_w dw178_5 14 rfl) rfl
theorem dX9_events_96 : decode cX9_events 96 = .ok (.iload_n 1, 1) := dop_27 (dn_w dw178_6 0 rfl)
theorem dX9_events_97 : decode cX9_events 97 = .ok (.imul, 1) := dop_104 (dn_w dw178_6 1 rfl)
theorem dX9_events_98 : decode cX9_events 98 = .ok (.iload_n 2, 1) := dop_28 (dn_w dw178_6 2 rfl)
theorem dX9_events_99 : decode cX9_events 99 = .ok (.iadd, 1) := dop_96 (dn_w dw178_6 3 rfl)
theorem dX9_events_100 : decode cX9_events 100 = .ok (.iload 6, 2) := dop_21 (dn_w dw178_6 4 rfl)
theorem dX9_events_102 : decode cX9_events 102 = .ok (.iadd, 1) := dop_96 (dn_w dw178_6 6 rfl)
theorem dX9_events_103 : decode cX9_events 103 = .ok (.laload, 1) := dop_47 (dn_w dw178_6 7 rfl)
theorem dX9_events_104 : decode cX9_events 104 = .ok (.ldc2_w 272, 3) := dop_20 (dn_w dw178_6 8 rfl) rfl
theorem dX9_events_107 : decode cX9_events 107 = .ok (.land, 1) := dop_127 (dn_w dw178_6 11 rfl)
theorem dX9_events_108 : decode cX9_events 108 = .ok (.l2i, 1) := dop_136 (dn_w dw178_6 12 rfl)
theorem dX9_events_109 : decode cX9_events 109 = .ok (.iastore, 1) := dop_79 (dn_w dw178_6 13 rfl)
theorem dX9_events_110 : decode cX9_events 110 = .ok (.iinc 6 1, 3) := dop_132 (dn_w dw178_6 14 rfl) rfl
theorem dX9_events_113 : decode cX9_events 113 = .ok (.goto (-38), 3) := dop_167 (dn_w dw178_7 1 rfl) rfl
theorem dX9_events_116 : decode cX9_events 116 = .ok (.iload 4, 2) := dop_21 (dn_w dw178_7 4 rfl)
theorem dX9_events_118 : decode cX9_events 118 = .ok (.ireturn, 1) := dop_172 (dn_w dw178_7 6 rfl)
noncomputable def dt179_0 : List Nat := 26 :: 3 :: 6 :: 184 :: 0 :: 87 :: 172 :: []
theorem dw179_0 : dn cX9_isShelf 0 = dt179_0 := by decide +kernel
theorem dX9_isShelf_0 : decode cX9_isShelf 0 = .ok (.iload_n 0, 1) := dop_26 (dn_w dw179_0 0 rfl)
theorem dX9_isShelf_1 : decode cX9_isShelf 1 = .ok (.iconst 0, 1) := dop_3 (dn_w dw179_0 1 rfl)
theorem dX9_isShelf_2 : decode cX9_isShelf 2 = .ok (.iconst 3, 1) := dop_6 (dn_w dw179_0 2 rfl)
theorem dX9_isShelf_3 : decode cX9_isShelf 3 = .ok (.invokestatic 87, 3) := dop_184 (dn_w dw179_0 3 rfl) rfl
theorem dX9_isShelf_6 : decode cX9_isShelf 6 = .ok (.ireturn, 1) := dop_172 (dn_w dw179_0 6 rfl)
noncomputable def dt180_5 : List Nat := 4 :: 96 :: 9 :: 80 :: 132 :: 4 :: 1 :: 167 :: 255 :: 233 :: 4 :: 172 :: []
noncomputable def dt180_4 : List Nat := 21 :: 4 :: 16 :: 40 :: 162 :: 0 :: 22 :: 42 :: 180 :: 0 :: 65 :: 16 :: 40 :: 27 :: 104 :: 21 :: dt180_5
noncomputable def dt180_3 : List Nat := 0 :: 62 :: 27 :: 28 :: 156 :: 0 :: 7 :: 3 :: 167 :: 0 :: 4 :: 29 :: 79 :: 3 :: 54 :: 4 :: dt180_4
noncomputable def dt180_2 : List Nat := 29 :: 156 :: 0 :: 6 :: 16 :: 242 :: 172 :: 42 :: 180 :: 0 :: 59 :: 27 :: 28 :: 79 :: 42 :: 180 :: dt180_3
noncomputable def dt180_1 : List Nat := 28 :: 155 :: 0 :: 11 :: 29 :: 16 :: 40 :: 164 :: 0 :: 5 :: 2 :: 172 :: 28 :: 155 :: 0 :: 10 :: dt180_2
noncomputable def dt180_0 : List Nat := 27 :: 184 :: 1 :: 10 :: 153 :: 0 :: 22 :: 28 :: 2 :: 6 :: 184 :: 0 :: 87 :: 153 :: 0 :: 13 :: dt180_1
theorem dw180_0 : dn cX9_sheet 0 = dt180_0 := by decide +kernel
theorem dw180_1 : dn cX9_sheet 16 = dt180_1 := dn_w dw180_0 16 rfl
theorem dw180_2 : dn cX9_sheet 32 = dt180_2 := dn_w dw180_1 16 rfl
theorem dw180_3 : dn cX9_sheet 48 = dt180_3 := dn_w dw180_2 16 rfl
theorem dw180_4 : dn cX9_sheet 64 = dt180_4 := dn_w dw180_3 16 rfl
theorem dw180_5 : dn cX9_sheet 80 = dt180_5 := dn_w dw180_4 16 rfl
theorem dX9_sheet_0 : decode cX9_sheet 0 = .ok (.iload_n 1, 1) := dop_27 (dn_w dw180_0 0 rfl)
theorem dX9_sheet_1 : decode cX9_sheet 1 = .ok (.invokestatic 266, 3) := dop_184 (dn_w dw180_0 1 rfl) rfl
theorem dX9_sheet_4 : decode cX9_sheet 4 = .ok (.ifCond .eq 22, 3) := dop_153 (dn_w dw180_0 4 rfl) rfl
theorem dX9_sheet_7 : decode cX9_sheet 7 = .ok (.iload_n 2, 1) := dop_28 (dn_w dw180_0 7 rfl)
theorem dX9_sheet_8 : decode cX9_sheet 8 = .ok (.iconst (-1), 1) := dop_2 (dn_w dw180_0 8 rfl)
theorem dX9_sheet_9 : decode cX9_sheet 9 = .ok (.iconst 3, 1) := dop_6 (dn_w dw180_0 9 rfl)
theorem dX9_sheet_10 : decode cX9_sheet 10 = .ok (.invokestatic 87, 3) := dop_184 (dn_w dw180_0 10 rfl) rfl
theorem dX9_sheet_13 : decode cX9_sheet 13 = .ok (.ifCond .eq 13, 3) := dop_153 (dn_w dw180_0 13 rfl) rfl
theorem dX9_sheet_16 : decode cX9_sheet 16 = .ok (.iload_n 2, 1) := dop_28 (dn_w dw180_1 0 rfl)
theorem dX9_sheet_17 : decode cX9_sheet 17 = .ok (.ifCond .lt 11, 3) := dop_155 (dn_w dw180_1 1 rfl) rfl
theorem dX9_sheet_20 : decode cX9_sheet 20 = .ok (.iload_n 3, 1) := dop_29 (dn_w dw180_1 4 rfl)
theorem dX9_sheet_21 : decode cX9_sheet 21 = .ok (.bipush 40, 2) := dop_16 (dn_w dw180_1 5 rfl) rfl
theorem dX9_sheet_23 : decode cX9_sheet 23 = .ok (.if_icmp .le 5, 3) := dop_164 (dn_w dw180_1 7 rfl) rfl
theorem dX9_sheet_26 : decode cX9_sheet 26 = .ok (.iconst (-1), 1) := dop_2 (dn_w dw180_1 10 rfl)
theorem dX9_sheet_27 : decode cX9_sheet 27 = .ok (.ireturn, 1) := dop_172 (dn_w dw180_1 11 rfl)
theorem dX9_sheet_28 : decode cX9_sheet 28 = .ok (.iload_n 2, 1) := dop_28 (dn_w dw180_1 12 rfl)
theorem dX9_sheet_29 : decode cX9_sheet 29 = .ok (.ifCond .lt 10, 3) := dop_155 (dn_w dw180_1 13 rfl) rfl
theorem dX9_sheet_32 : decode cX9_sheet 32 = .ok (.iload_n 3, 1) := dop_29 (dn_w dw180_2 0 rfl)
theorem dX9_sheet_33 : decode cX9_sheet 33 = .ok (.ifCond .ge 6, 3) := dop_156 (dn_w dw180_2 1 rfl) rfl
theorem dX9_sheet_36 : decode cX9_sheet 36 = .ok (.bipush (-14), 2) := dop_16 (dn_w dw180_2 4 rfl) rfl
theorem dX9_sheet_38 : decode cX9_sheet 38 = .ok (.ireturn, 1) := dop_172 (dn_w dw180_2 6 rfl)
theorem dX9_sheet_39 : decode cX9_sheet 39 = .ok (.aload_n 0, 1) := dop_42 (dn_w dw180_2 7 rfl)
theorem dX9_sheet_40 : decode cX9_sheet 40 = .ok (.getfield 59, 3) := dop_180 (dn_w dw180_2 8 rfl) rfl
theorem dX9_sheet_43 : decode cX9_sheet 43 = .ok (.iload_n 1, 1) := dop_27 (dn_w dw180_2 11 rfl)
theorem dX9_sheet_44 : decode cX9_sheet 44 = .ok (.iload_n 2, 1) := dop_28 (dn_w dw180_2 12 rfl)
theorem dX9_sheet_45 : decode cX9_sheet 45 = .ok (.iastore, 1) := dop_79 (dn_w dw180_2 13 rfl)
theorem dX9_sheet_46 : decode cX9_sheet 46 = .ok (.aload_n 0, 1) := dop_42 (dn_w dw180_2 14 rfl)
theorem dX9_sheet_47 : decode cX9_sheet 47 = .ok (.getfield 62, 3) := dop_180 (dn_w dw180_2 15 rfl) rfl
theorem dX9_sheet_50 : decode cX9_sheet 50 = .ok (.iload_n 1, 1) := dop_27 (dn_w dw180_3 2 rfl)
theorem dX9_sheet_51 : decode cX9_sheet 51 = .ok (.iload_n 2, 1) := dop_28 (dn_w dw180_3 3 rfl)
theorem dX9_sheet_52 : decode cX9_sheet 52 = .ok (.ifCond .ge 7, 3) := dop_156 (dn_w dw180_3 4 rfl) rfl
theorem dX9_sheet_55 : decode cX9_sheet 55 = .ok (.iconst 0, 1) := dop_3 (dn_w dw180_3 7 rfl)
theorem dX9_sheet_56 : decode cX9_sheet 56 = .ok (.goto 4, 3) := dop_167 (dn_w dw180_3 8 rfl) rfl
theorem dX9_sheet_59 : decode cX9_sheet 59 = .ok (.iload_n 3, 1) := dop_29 (dn_w dw180_3 11 rfl)
theorem dX9_sheet_60 : decode cX9_sheet 60 = .ok (.iastore, 1) := dop_79 (dn_w dw180_3 12 rfl)
theorem dX9_sheet_61 : decode cX9_sheet 61 = .ok (.iconst 0, 1) := dop_3 (dn_w dw180_3 13 rfl)
theorem dX9_sheet_62 : decode cX9_sheet 62 = .ok (.istore 4, 2) := dop_54 (dn_w dw180_3 14 rfl)
theorem dX9_sheet_64 : decode cX9_sheet 64 = .ok (.iload 4, 2) := dop_21 (dn_w dw180_4 0 rfl)
theorem dX9_sheet_66 : decode cX9_sheet 66 = .ok (.bipush 40, 2) := dop_16 (dn_w dw180_4 2 rfl) rfl
theorem dX9_sheet_68 : decode cX9_sheet 68 = .ok (.if_icmp .ge 22, 3) := dop_162 (dn_w dw180_4 4 rfl) rfl
theorem dX9_sheet_71 : decode cX9_sheet 71 = .ok (.aload_n 0, 1) := dop_42 (dn_w dw180_4 7 rfl)
theorem dX9_sheet_72 : decode cX9_sheet 72 = .ok (.getfield 65, 3) := dop_180 (dn_w dw180_4 8 rfl) rfl
theorem dX9_sheet_75 : decode cX9_sheet 75 = .ok (.bipush 40, 2) := dop_16 (dn_w dw180_4 11 rfl) rfl
theorem dX9_sheet_77 : decode cX9_sheet 77 = .ok (.iload_n 1, 1) := dop_27 (dn_w dw180_4 13 rfl)
theorem dX9_sheet_78 : decode cX9_sheet 78 = .ok (.imul, 1) := dop_104 (dn_w dw180_4 14 rfl)
theorem dX9_sheet_79 : decode cX9_sheet 79 = .ok (.iload 4, 2) := dop_21 (dn_w dw180_4 15 rfl)
theorem dX9_sheet_81 : decode cX9_sheet 81 = .ok (.iadd, 1) := dop_96 (dn_w dw180_5 1 rfl)
theorem dX9_sheet_82 : decode cX9_sheet 82 = .ok (.lconst 0, 1) := dop_9 (dn_w dw180_5 2 rfl)
theorem dX9_sheet_83 : decode cX9_sheet 83 = .ok (.lastore, 1) := dop_80 (dn_w dw180_5 3 rfl)
theorem dX9_sheet_84 : decode cX9_sheet 84 = .ok (.iinc 4 1, 3) := dop_132 (dn_w dw180_5 4 rfl) rfl
theorem dX9_sheet_87 : decode cX9_sheet 87 = .ok (.goto (-23), 3) := dop_167 (dn_w dw180_5 7 rfl) rfl
theorem dX9_sheet_90 : decode cX9_sheet 90 = .ok (.iconst 1, 1) := dop_4 (dn_w dw180_5 10 rfl)
theorem dX9_sheet_91 : decode cX9_sheet 91 = .ok (.ireturn, 1) := dop_172 (dn_w dw180_5 11 rfl)
noncomputable def dt181_5 : List Nat := 5 :: 29 :: 133 :: 80 :: 4 :: 172 :: []
noncomputable def dt181_4 : List Nat := 21 :: 42 :: 180 :: 0 :: 59 :: 27 :: 46 :: 4 :: 160 :: 0 :: 9 :: 29 :: 147 :: 133 :: 167 :: 0 :: dt181_5
noncomputable def dt181_3 : List Nat := 28 :: 96 :: 42 :: 180 :: 0 :: 59 :: 27 :: 46 :: 154 :: 0 :: 9 :: 29 :: 145 :: 133 :: 167 :: 0 :: dt181_4
noncomputable def dt181_2 : List Nat := 0 :: 87 :: 154 :: 0 :: 6 :: 16 :: 244 :: 172 :: 42 :: 180 :: 0 :: 65 :: 16 :: 40 :: 27 :: 104 :: dt181_3
noncomputable def dt181_1 : List Nat := 0 :: 6 :: 16 :: 245 :: 172 :: 28 :: 3 :: 42 :: 180 :: 0 :: 62 :: 27 :: 46 :: 4 :: 100 :: 184 :: dt181_2
noncomputable def dt181_0 : List Nat := 27 :: 184 :: 1 :: 10 :: 154 :: 0 :: 5 :: 2 :: 172 :: 42 :: 180 :: 0 :: 59 :: 27 :: 46 :: 156 :: dt181_1
theorem dw181_0 : dn cX9_put 0 = dt181_0 := by decide +kernel
theorem dw181_1 : dn cX9_put 16 = dt181_1 := dn_w dw181_0 16 rfl
theorem dw181_2 : dn cX9_put 32 = dt181_2 := dn_w dw181_1 16 rfl
theorem dw181_3 : dn cX9_put 48 = dt181_3 := dn_w dw181_2 16 rfl
theorem dw181_4 : dn cX9_put 64 = dt181_4 := dn_w dw181_3 16 rfl
theorem dw181_5 : dn cX9_put 80 = dt181_5 := dn_w dw181_4 16 rfl
theorem dX9_put_0 : decode cX9_put 0 = .ok (.iload_n 1, 1) := dop_27 (dn_w dw181_0 0 rfl)
theorem dX9_put_1 : decode cX9_put 1 = .ok (.invokestatic 266, 3) := dop_184 (dn_w dw181_0 1 rfl) rfl
theorem dX9_put_4 : decode cX9_put 4 = .ok (.ifCond .ne 5, 3) := dop_154 (dn_w dw181_0 4 rfl) rfl
theorem dX9_put_7 : decode cX9_put 7 = .ok (.iconst (-1), 1) := dop_2 (dn_w dw181_0 7 rfl)
theorem dX9_put_8 : decode cX9_put 8 = .ok (.ireturn, 1) := dop_172 (dn_w dw181_0 8 rfl)
theorem dX9_put_9 : decode cX9_put 9 = .ok (.aload_n 0, 1) := dop_42 (dn_w dw181_0 9 rfl)
theorem dX9_put_10 : decode cX9_put 10 = .ok (.getfield 59, 3) := dop_180 (dn_w dw181_0 10 rfl) rfl
theorem dX9_put_13 : decode cX9_put 13 = .ok (.iload_n 1, 1) := dop_27 (dn_w dw181_0 13 rfl)
theorem dX9_put_14 : decode cX9_put 14 = .ok (.iaload, 1) := dop_46 (dn_w dw181_0 14 rfl)
theorem dX9_put_15 : decode cX9_put 15 = .ok (.ifCond .ge 6, 3) := dop_156 (dn_w dw181_0 15 rfl) rfl
theorem dX9_put_18 : decode cX9_put 18 = .ok (.bipush (-11), 2) := dop_16 (dn_w dw181_1 2 rfl) rfl
theorem dX9_put_20 : decode cX9_put 20 = .ok (.ireturn, 1) := dop_172 (dn_w dw181_1 4 rfl)
theorem dX9_put_21 : decode cX9_put 21 = .ok (.iload_n 2, 1) := dop_28 (dn_w dw181_1 5 rfl)
theorem dX9_put_22 : decode cX9_put 22 = .ok (.iconst 0, 1) := dop_3 (dn_w dw181_1 6 rfl)
theorem dX9_put_23 : decode cX9_put 23 = .ok (.aload_n 0, 1) := dop_42 (dn_w dw181_1 7 rfl)
theorem dX9_put_24 : decode cX9_put 24 = .ok (.getfield 62, 3) := dop_180 (dn_w dw181_1 8 rfl) rfl
theorem dX9_put_27 : decode cX9_put 27 = .ok (.iload_n 1, 1) := dop_27 (dn_w dw181_1 11 rfl)
theorem dX9_put_28 : decode cX9_put 28 = .ok (.iaload, 1) := dop_46 (dn_w dw181_1 12 rfl)
theorem dX9_put_29 : decode cX9_put 29 = .ok (.iconst 1, 1) := dop_4 (dn_w dw181_1 13 rfl)
theorem dX9_put_30 : decode cX9_put 30 = .ok (.isub, 1) := dop_100 (dn_w dw181_1 14 rfl)
theorem dX9_put_31 : decode cX9_put 31 = .ok (.invokestatic 87, 3) := dop_184 (dn_w dw181_1 15 rfl) rfl
theorem dX9_put_34 : decode cX9_put 34 = .ok (.ifCond .ne 6, 3) := dop_154 (dn_w dw181_2 2 rfl) rfl
theorem dX9_put_37 : decode cX9_put 37 = .ok (.bipush (-12), 2) := dop_16 (dn_w dw181_2 5 rfl) rfl
theorem dX9_put_39 : decode cX9_put 39 = .ok (.ireturn, 1) := dop_172 (dn_w dw181_2 7 rfl)
theorem dX9_put_40 : decode cX9_put 40 = .ok (.aload_n 0, 1) := dop_42 (dn_w dw181_2 8 rfl)
theorem dX9_put_41 : decode cX9_put 41 = .ok (.getfield 65, 3) := dop_180 (dn_w dw181_2 9 rfl) rfl
theorem dX9_put_44 : decode cX9_put 44 = .ok (.bipush 40, 2) := dop_16 (dn_w dw181_2 12 rfl) rfl
theorem dX9_put_46 : decode cX9_put 46 = .ok (.iload_n 1, 1) := dop_27 (dn_w dw181_2 14 rfl)
theorem dX9_put_47 : decode cX9_put 47 = .ok (.imul, 1) := dop_104 (dn_w dw181_2 15 rfl)
theorem dX9_put_48 : decode cX9_put 48 = .ok (.iload_n 2, 1) := dop_28 (dn_w dw181_3 0 rfl)
theorem dX9_put_49 : decode cX9_put 49 = .ok (.iadd, 1) := dop_96 (dn_w dw181_3 1 rfl)
theorem dX9_put_50 : decode cX9_put 50 = .ok (.aload_n 0, 1) := dop_42 (dn_w dw181_3 2 rfl)
theorem dX9_put_51 : decode cX9_put 51 = .ok (.getfield 59, 3) := dop_180 (dn_w dw181_3 3 rfl) rfl
theorem dX9_put_54 : decode cX9_put 54 = .ok (.iload_n 1, 1) := dop_27 (dn_w dw181_3 6 rfl)
theorem dX9_put_55 : decode cX9_put 55 = .ok (.iaload, 1) := dop_46 (dn_w dw181_3 7 rfl)
theorem dX9_put_56 : decode cX9_put 56 = .ok (.ifCond .ne 9, 3) := dop_154 (dn_w dw181_3 8 rfl) rfl
theorem dX9_put_59 : decode cX9_put 59 = .ok (.iload_n 3, 1) := dop_29 (dn_w dw181_3 11 rfl)
theorem dX9_put_60 : decode cX9_put 60 = .ok (.i2b, 1) := dop_145 (dn_w dw181_3 12 rfl)
theorem dX9_put_61 : decode cX9_put 61 = .ok (.i2l, 1) := dop_133 (dn_w dw181_3 13 rfl)
theorem dX9_put_62 : decode cX9_put 62 = .ok (.goto 21, 3) := dop_167 (dn_w dw181_3 14 rfl) rfl
theorem dX9_put_65 : decode cX9_put 65 = .ok (.aload_n 0, 1) := dop_42 (dn_w dw181_4 1 rfl)
theorem dX9_put_66 : decode cX9_put 66 = .ok (.getfield 59, 3) := dop_180 (dn_w dw181_4 2 rfl) rfl
theorem dX9_put_69 : decode cX9_put 69 = .ok (.iload_n 1, 1) := dop_27 (dn_w dw181_4 5 rfl)
theorem dX9_put_70 : decode cX9_put 70 = .ok (.iaload, 1) := dop_46 (dn_w dw181_4 6 rfl)
theorem dX9_put_71 : decode cX9_put 71 = .ok (.iconst 1, 1) := dop_4 (dn_w dw181_4 7 rfl)
theorem dX9_put_72 : decode cX9_put 72 = .ok (.if_icmp .ne 9, 3) := dop_160 (dn_w dw181_4 8 rfl) rfl
theorem dX9_put_75 : decode cX9_put 75 = .ok (.iload_n 3, 1) := dop_29 (dn_w dw181_4 11 rfl)
theorem dX9_put_76 : decode cX9_put 76 = .ok (.i2s, 1) := dop_147 (dn_w dw181_4 12 rfl)
theorem dX9_put_77 : decode cX9_put 77 = .ok (.i2l, 1) := dop_133 (dn_w dw181_4 13 rfl)
theorem dX9_put_78 : decode cX9_put 78 = .ok (.goto 5, 3) := dop_167 (dn_w dw181_4 14 rfl) rfl
theorem dX9_put_81 : decode cX9_put 81 = .ok (.iload_n 3, 1) := dop_29 (dn_w dw181_5 1 rfl)
theorem dX9_put_82 : decode cX9_put 82 = .ok (.i2l, 1) := dop_133 (dn_w dw181_5 2 rfl)
theorem dX9_put_83 : decode cX9_put 83 = .ok (.lastore, 1) := dop_80 (dn_w dw181_5 3 rfl)
theorem dX9_put_84 : decode cX9_put 84 = .ok (.iconst 1, 1) := dop_4 (dn_w dw181_5 4 rfl)
theorem dX9_put_85 : decode cX9_put 85 = .ok (.ireturn, 1) := dop_172 (dn_w dw181_5 5 rfl)
noncomputable def dt182_1 : List Nat := 0 :: 59 :: 27 :: 46 :: 28 :: 159 :: 0 :: 8 :: 16 :: 243 :: 167 :: 0 :: 4 :: 3 :: 172 :: []
noncomputable def dt182_0 : List Nat := 42 :: 180 :: 0 :: 59 :: 27 :: 46 :: 156 :: 0 :: 8 :: 16 :: 245 :: 167 :: 0 :: 19 :: 42 :: 180 :: dt182_1
theorem dw182_0 : dn cX9_lacksSort 0 = dt182_0 := by decide +kernel
theorem dw182_1 : dn cX9_lacksSort 16 = dt182_1 := dn_w dw182_0 16 rfl
theorem dX9_lacksSort_0 : decode cX9_lacksSort 0 = .ok (.aload_n 0, 1) := dop_42 (dn_w dw182_0 0 rfl)
theorem dX9_lacksSort_1 : decode cX9_lacksSort 1 = .ok (.getfield 59, 3) := dop_180 (dn_w dw182_0 1 rfl) rfl
theorem dX9_lacksSort_4 : decode cX9_lacksSort 4 = .ok (.iload_n 1, 1) := dop_27 (dn_w dw182_0 4 rfl)
theorem dX9_lacksSort_5 : decode cX9_lacksSort 5 = .ok (.iaload, 1) := dop_46 (dn_w dw182_0 5 rfl)
theorem dX9_lacksSort_6 : decode cX9_lacksSort 6 = .ok (.ifCond .ge 8, 3) := dop_156 (dn_w dw182_0 6 rfl) rfl
theorem dX9_lacksSort_9 : decode cX9_lacksSort 9 = .ok (.bipush (-11), 2) := dop_16 (dn_w dw182_0 9 rfl) rfl
theorem dX9_lacksSort_11 : decode cX9_lacksSort 11 = .ok (.goto 19, 3) := dop_167 (dn_w dw182_0 11 rfl) rfl
theorem dX9_lacksSort_14 : decode cX9_lacksSort 14 = .ok (.aload_n 0, 1) := dop_42 (dn_w dw182_0 14 rfl)
theorem dX9_lacksSort_15 : decode cX9_lacksSort 15 = .ok (.getfield 59, 3) := dop_180 (dn_w dw182_0 15 rfl) rfl
theorem dX9_lacksSort_18 : decode cX9_lacksSort 18 = .ok (.iload_n 1, 1) := dop_27 (dn_w dw182_1 2 rfl)
theorem dX9_lacksSort_19 : decode cX9_lacksSort 19 = .ok (.iaload, 1) := dop_46 (dn_w dw182_1 3 rfl)
theorem dX9_lacksSort_20 : decode cX9_lacksSort 20 = .ok (.iload_n 2, 1) := dop_28 (dn_w dw182_1 4 rfl)
theorem dX9_lacksSort_21 : decode cX9_lacksSort 21 = .ok (.if_icmp .eq 8, 3) := dop_159 (dn_w dw182_1 5 rfl) rfl
theorem dX9_lacksSort_24 : decode cX9_lacksSort 24 = .ok (.bipush (-13), 2) := dop_16 (dn_w dw182_1 8 rfl) rfl
theorem dX9_lacksSort_26 : decode cX9_lacksSort 26 = .ok (.goto 4, 3) := dop_167 (dn_w dw182_1 10 rfl) rfl
theorem dX9_lacksSort_29 : decode cX9_lacksSort 29 = .ok (.iconst 0, 1) := dop_3 (dn_w dw182_1 13 rfl)
theorem dX9_lacksSort_30 : decode cX9_lacksSort 30 = .ok (.ireturn, 1) := dop_172 (dn_w dw182_1 14 rfl)
noncomputable def dt183_4 : List Nat := 5 :: 16 :: 244 :: 172 :: []
noncomputable def dt183_3 : List Nat := 0 :: 18 :: 42 :: 180 :: 0 :: 65 :: 16 :: 40 :: 27 :: 104 :: 29 :: 96 :: 47 :: 136 :: 167 :: 0 :: dt183_4
noncomputable def dt183_2 : List Nat := 4 :: 172 :: 29 :: 3 :: 42 :: 180 :: 0 :: 62 :: 27 :: 46 :: 4 :: 100 :: 184 :: 0 :: 87 :: 153 :: dt183_3
noncomputable def dt183_1 : List Nat := 2 :: 172 :: 42 :: 27 :: 28 :: 182 :: 1 :: 13 :: 54 :: 4 :: 21 :: 4 :: 153 :: 0 :: 6 :: 21 :: dt183_2
noncomputable def dt183_0 : List Nat := 27 :: 184 :: 1 :: 10 :: 153 :: 0 :: 12 :: 28 :: 3 :: 6 :: 184 :: 0 :: 87 :: 154 :: 0 :: 5 :: dt183_1
theorem dw183_0 : dn cX9_item 0 = dt183_0 := by decide +kernel
theorem dw183_1 : dn cX9_item 16 = dt183_1 := dn_w dw183_0 16 rfl
theorem dw183_2 : dn cX9_item 32 = dt183_2 := dn_w dw183_1 16 rfl
theorem dw183_3 : dn cX9_item 48 = dt183_3 := dn_w dw183_2 16 rfl
theorem dw183_4 : dn cX9_item 64 = dt183_4 := dn_w dw183_3 16 rfl
theorem dX9_item_0 : decode cX9_item 0 = .ok (.iload_n 1, 1) := dop_27 (dn_w dw183_0 0 rfl)
theorem dX9_item_1 : decode cX9_item 1 = .ok (.invokestatic 266, 3) := dop_184 (dn_w dw183_0 1 rfl) rfl
theorem dX9_item_4 : decode cX9_item 4 = .ok (.ifCond .eq 12, 3) := dop_153 (dn_w dw183_0 4 rfl) rfl
theorem dX9_item_7 : decode cX9_item 7 = .ok (.iload_n 2, 1) := dop_28 (dn_w dw183_0 7 rfl)
theorem dX9_item_8 : decode cX9_item 8 = .ok (.iconst 0, 1) := dop_3 (dn_w dw183_0 8 rfl)
theorem dX9_item_9 : decode cX9_item 9 = .ok (.iconst 3, 1) := dop_6 (dn_w dw183_0 9 rfl)
theorem dX9_item_10 : decode cX9_item 10 = .ok (.invokestatic 87, 3) := dop_184 (dn_w dw183_0 10 rfl) rfl
theorem dX9_item_13 : decode cX9_item 13 = .ok (.ifCond .ne 5, 3) := dop_154 (dn_w dw183_0 13 rfl) rfl
theorem dX9_item_16 : decode cX9_item 16 = .ok (.iconst (-1), 1) := dop_2 (dn_w dw183_1 0 rfl)
theorem dX9_item_17 : decode cX9_item 17 = .ok (.ireturn, 1) := dop_172 (dn_w dw183_1 1 rfl)
theorem dX9_item_18 : decode cX9_item 18 = .ok (.aload_n 0, 1) := dop_42 (dn_w dw183_1 2 rfl)
theorem dX9_item_19 : decode cX9_item 19 = .ok (.iload_n 1, 1) := dop_27 (dn_w dw183_1 3 rfl)
theorem dX9_item_20 : decode cX9_item 20 = .ok (.iload_n 2, 1) := dop_28 (dn_w dw183_1 4 rfl)
theorem dX9_item_21 : decode cX9_item 21 = .ok (.invokevirtual 269, 3) := dop_182 (dn_w dw183_1 5 rfl) rfl
theorem dX9_item_24 : decode cX9_item 24 = .ok (.istore 4, 2) := dop_54 (dn_w dw183_1 8 rfl)
theorem dX9_item_26 : decode cX9_item 26 = .ok (.iload 4, 2) := dop_21 (dn_w dw183_1 10 rfl)
theorem dX9_item_28 : decode cX9_item 28 = .ok (.ifCond .eq 6, 3) := dop_153 (dn_w dw183_1 12 rfl) rfl
theorem dX9_item_31 : decode cX9_item 31 = .ok (.iload 4, 2) := dop_21 (dn_w dw183_1 15 rfl)
theorem dX9_item_33 : decode cX9_item 33 = .ok (.ireturn, 1) := dop_172 (dn_w dw183_2 1 rfl)
theorem dX9_item_34 : decode cX9_item 34 = .ok (.iload_n 3, 1) := dop_29 (dn_w dw183_2 2 rfl)
theorem dX9_item_35 : decode cX9_item 35 = .ok (.iconst 0, 1) := dop_3 (dn_w dw183_2 3 rfl)
theorem dX9_item_36 : decode cX9_item 36 = .ok (.aload_n 0, 1) := dop_42 (dn_w dw183_2 4 rfl)
theorem dX9_item_37 : decode cX9_item 37 = .ok (.getfield 62, 3) := dop_180 (dn_w dw183_2 5 rfl) rfl
theorem dX9_item_40 : decode cX9_item 40 = .ok (.iload_n 1, 1) := dop_27 (dn_w dw183_2 8 rfl)
theorem dX9_item_41 : decode cX9_item 41 = .ok (.iaload, 1) := dop_46 (dn_w dw183_2 9 rfl)
theorem dX9_item_42 : decode cX9_item 42 = .ok (.iconst 1, 1) := dop_4 (dn_w dw183_2 10 rfl)
theorem dX9_item_43 : decode cX9_item 43 = .ok (.isub, 1) := dop_100 (dn_w dw183_2 11 rfl)
theorem dX9_item_44 : decode cX9_item 44 = .ok (.invokestatic 87, 3) := dop_184 (dn_w dw183_2 12 rfl) rfl
theorem dX9_item_47 : decode cX9_item 47 = .ok (.ifCond .eq 18, 3) := dop_153 (dn_w dw183_2 15 rfl) rfl
theorem dX9_item_50 : decode cX9_item 50 = .ok (.aload_n 0, 1) := dop_42 (dn_w dw183_3 2 rfl)
theorem dX9_item_51 : decode cX9_item 51 = .ok (.getfield 65, 3) := dop_180 (dn_w dw183_3 3 rfl) rfl
theorem dX9_item_54 : decode cX9_item 54 = .ok (.bipush 40, 2) := dop_16 (dn_w dw183_3 6 rfl) rfl
theorem dX9_item_56 : decode cX9_item 56 = .ok (.iload_n 1, 1) := dop_27 (dn_w dw183_3 8 rfl)
theorem dX9_item_57 : decode cX9_item 57 = .ok (.imul, 1) := dop_104 (dn_w dw183_3 9 rfl)
theorem dX9_item_58 : decode cX9_item 58 = .ok (.iload_n 3, 1) := dop_29 (dn_w dw183_3 10 rfl)
theorem dX9_item_59 : decode cX9_item 59 = .ok (.iadd, 1) := dop_96 (dn_w dw183_3 11 rfl)
theorem dX9_item_60 : decode cX9_item 60 = .ok (.laload, 1) := dop_47 (dn_w dw183_3 12 rfl)
theorem dX9_item_61 : decode cX9_item 61 = .ok (.l2i, 1) := dop_136 (dn_w dw183_3 13 rfl)
theorem dX9_item_62 : decode cX9_item 62 = .ok (.goto 5, 3) := dop_167 (dn_w dw183_3 14 rfl) rfl
theorem dX9_item_65 : decode cX9_item 65 = .ok (.bipush (-12), 2) := dop_16 (dn_w dw183_4 1 rfl) rfl
theorem dX9_item_67 : decode cX9_item 67 = .ok (.ireturn, 1) := dop_172 (dn_w dw183_4 3 rfl)
noncomputable def dt184_2 : List Nat := 4 :: 3 :: 172 :: []
noncomputable def dt184_1 : List Nat := 10 :: 28 :: 184 :: 1 :: 10 :: 167 :: 0 :: 13 :: 27 :: 5 :: 160 :: 0 :: 7 :: 4 :: 167 :: 0 :: dt184_2
noncomputable def dt184_0 : List Nat := 27 :: 154 :: 0 :: 11 :: 42 :: 28 :: 182 :: 0 :: 206 :: 167 :: 0 :: 25 :: 27 :: 4 :: 160 :: 0 :: dt184_1
theorem dw184_0 : dn cX9_isHeld 0 = dt184_0 := by decide +kernel
theorem dw184_1 : dn cX9_isHeld 16 = dt184_1 := dn_w dw184_0 16 rfl
theorem dw184_2 : dn cX9_isHeld 32 = dt184_2 := dn_w dw184_1 16 rfl
theorem dX9_isHeld_0 : decode cX9_isHeld 0 = .ok (.iload_n 1, 1) := dop_27 (dn_w dw184_0 0 rfl)
theorem dX9_isHeld_1 : decode cX9_isHeld 1 = .ok (.ifCond .ne 11, 3) := dop_154 (dn_w dw184_0 1 rfl) rfl
theorem dX9_isHeld_4 : decode cX9_isHeld 4 = .ok (.aload_n 0, 1) := dop_42 (dn_w dw184_0 4 rfl)
theorem dX9_isHeld_5 : decode cX9_isHeld 5 = .ok (.iload_n 2, 1) := dop_28 (dn_w dw184_0 5 rfl)
theorem dX9_isHeld_6 : decode cX9_isHeld 6 = .ok (.invokevirtual 206, 3) := dop_182 (dn_w dw184_0 6 rfl) rfl
theorem dX9_isHeld_9 : decode cX9_isHeld 9 = .ok (.goto 25, 3) := dop_167 (dn_w dw184_0 9 rfl) rfl
theorem dX9_isHeld_12 : decode cX9_isHeld 12 = .ok (.iload_n 1, 1) := dop_27 (dn_w dw184_0 12 rfl)
theorem dX9_isHeld_13 : decode cX9_isHeld 13 = .ok (.iconst 1, 1) := dop_4 (dn_w dw184_0 13 rfl)
theorem dX9_isHeld_14 : decode cX9_isHeld 14 = .ok (.if_icmp .ne 10, 3) := dop_160 (dn_w dw184_0 14 rfl) rfl
theorem dX9_isHeld_17 : decode cX9_isHeld 17 = .ok (.iload_n 2, 1) := dop_28 (dn_w dw184_1 1 rfl)
theorem dX9_isHeld_18 : decode cX9_isHeld 18 = .ok (.invokestatic 266, 3) := dop_184 (dn_w dw184_1 2 rfl) rfl
theorem dX9_isHeld_21 : decode cX9_isHeld 21 = .ok (.goto 13, 3) := dop_167 (dn_w dw184_1 5 rfl) rfl
theorem dX9_isHeld_24 : decode cX9_isHeld 24 = .ok (.iload_n 1, 1) := dop_27 (dn_w dw184_1 8 rfl)
theorem dX9_isHeld_25 : decode cX9_isHeld 25 = .ok (.iconst 2, 1) := dop_5 (dn_w dw184_1 9 rfl)
theorem dX9_isHeld_26 : decode cX9_isHeld 26 = .ok (.if_icmp .ne 7, 3) := dop_160 (dn_w dw184_1 10 rfl) rfl
theorem dX9_isHeld_29 : decode cX9_isHeld 29 = .ok (.iconst 1, 1) := dop_4 (dn_w dw184_1 13 rfl)
theorem dX9_isHeld_30 : decode cX9_isHeld 30 = .ok (.goto 4, 3) := dop_167 (dn_w dw184_1 14 rfl) rfl
theorem dX9_isHeld_33 : decode cX9_isHeld 33 = .ok (.iconst 0, 1) := dop_3 (dn_w dw184_2 1 rfl)
theorem dX9_isHeld_34 : decode cX9_isHeld 34 = .ok (.ireturn, 1) := dop_172 (dn_w dw184_2 2 rfl)
noncomputable def dt185_5 : List Nat := 180 :: 0 :: 62 :: 29 :: 46 :: 167 :: 0 :: 4 :: 3 :: 79 :: 4 :: 172 :: []
noncomputable def dt185_4 : List Nat := 167 :: 0 :: 4 :: 29 :: 79 :: 42 :: 180 :: 0 :: 75 :: 27 :: 28 :: 4 :: 160 :: 0 :: 12 :: 42 :: dt185_5
noncomputable def dt185_3 : List Nat := 42 :: 180 :: 0 :: 72 :: 27 :: 28 :: 4 :: 160 :: 0 :: 12 :: 42 :: 180 :: 0 :: 59 :: 29 :: 46 :: dt185_4
noncomputable def dt185_2 : List Nat := 16 :: 42 :: 180 :: 0 :: 59 :: 29 :: 46 :: 156 :: 0 :: 7 :: 2 :: 167 :: 0 :: 4 :: 28 :: 79 :: dt185_3
noncomputable def dt185_1 : List Nat := 2 :: 172 :: 42 :: 180 :: 0 :: 69 :: 27 :: 28 :: 5 :: 159 :: 0 :: 17 :: 28 :: 4 :: 160 :: 0 :: dt185_2
noncomputable def dt185_0 : List Nat := 27 :: 184 :: 1 :: 10 :: 153 :: 0 :: 12 :: 42 :: 28 :: 29 :: 182 :: 1 :: 18 :: 154 :: 0 :: 5 :: dt185_1
theorem dw185_0 : dn cX9_shelf 0 = dt185_0 := by decide +kernel
theorem dw185_1 : dn cX9_shelf 16 = dt185_1 := dn_w dw185_0 16 rfl
theorem dw185_2 : dn cX9_shelf 32 = dt185_2 := dn_w dw185_1 16 rfl
theorem dw185_3 : dn cX9_shelf 48 = dt185_3 := dn_w dw185_2 16 rfl
theorem dw185_4 : dn cX9_shelf 64 = dt185_4 := dn_w dw185_3 16 rfl
theorem dw185_5 : dn cX9_shelf 80 = dt185_5 := dn_w dw185_4 16 rfl
theorem dX9_shelf_0 : decode cX9_shelf 0 = .ok (.iload_n 1, 1) := dop_27 (dn_w dw185_0 0 rfl)
theorem dX9_shelf_1 : decode cX9_shelf 1 = .ok (.invokestatic 266, 3) := dop_184 (dn_w dw185_0 1 rfl) rfl
theorem dX9_shelf_4 : decode cX9_shelf 4 = .ok (.ifCond .eq 12, 3) := dop_153 (dn_w dw185_0 4 rfl) rfl
theorem dX9_shelf_7 : decode cX9_shelf 7 = .ok (.aload_n 0, 1) := dop_42 (dn_w dw185_0 7 rfl)
theorem dX9_shelf_8 : decode cX9_shelf 8 = .ok (.iload_n 2, 1) := dop_28 (dn_w dw185_0 8 rfl)
theorem dX9_shelf_9 : decode cX9_shelf 9 = .ok (.iload_n 3, 1) := dop_29 (dn_w dw185_0 9 rfl)
theorem dX9_shelf_10 : decode cX9_shelf 10 = .ok (.invokevirtual 274, 3) := dop_182 (dn_w dw185_0 10 rfl) rfl
theorem dX9_shelf_13 : decode cX9_shelf 13 = .ok (.ifCond .ne 5, 3) := dop_154 (dn_w dw185_0 13 rfl) rfl
theorem dX9_shelf_16 : decode cX9_shelf 16 = .ok (.iconst (-1), 1) := dop_2 (dn_w dw185_1 0 rfl)
theorem dX9_shelf_17 : decode cX9_shelf 17 = .ok (.ireturn, 1) := dop_172 (dn_w dw185_1 1 rfl)
theorem dX9_shelf_18 : decode cX9_shelf 18 = .ok (.aload_n 0, 1) := dop_42 (dn_w dw185_1 2 rfl)
theorem dX9_shelf_19 : decode cX9_shelf 19 = .ok (.getfield 69, 3) := dop_180 (dn_w dw185_1 3 rfl) rfl
theorem dX9_shelf_22 : decode cX9_shelf 22 = .ok (.iload_n 1, 1) := dop_27 (dn_w dw185_1 6 rfl)
theorem dX9_shelf_23 : decode cX9_shelf 23 = .ok (.iload_n 2, 1) := dop_28 (dn_w dw185_1 7 rfl)
theorem dX9_shelf_24 : decode cX9_shelf 24 = .ok (.iconst 2, 1) := dop_5 (dn_w dw185_1 8 rfl)
theorem dX9_shelf_25 : decode cX9_shelf 25 = .ok (.if_icmp .eq 17, 3) := dop_159 (dn_w dw185_1 9 rfl) rfl
theorem dX9_shelf_28 : decode cX9_shelf 28 = .ok (.iload_n 2, 1) := dop_28 (dn_w dw185_1 12 rfl)
theorem dX9_shelf_29 : decode cX9_shelf 29 = .ok (.iconst 1, 1) := dop_4 (dn_w dw185_1 13 rfl)
theorem dX9_shelf_30 : decode cX9_shelf 30 = .ok (.if_icmp .ne 16, 3) := dop_160 (dn_w dw185_1 14 rfl) rfl
theorem dX9_shelf_33 : decode cX9_shelf 33 = .ok (.aload_n 0, 1) := dop_42 (dn_w dw185_2 1 rfl)
theorem dX9_shelf_34 : decode cX9_shelf 34 = .ok (.getfield 59, 3) := dop_180 (dn_w dw185_2 2 rfl) rfl
theorem dX9_shelf_37 : decode cX9_shelf 37 = .ok (.iload_n 3, 1) := dop_29 (dn_w dw185_2 5 rfl)
theorem dX9_shelf_38 : decode cX9_shelf 38 = .ok (.iaload, 1) := dop_46 (dn_w dw185_2 6 rfl)
theorem dX9_shelf_39 : decode cX9_shelf 39 = .ok (.ifCond .ge 7, 3) := dop_156 (dn_w dw185_2 7 rfl) rfl
theorem dX9_shelf_42 : decode cX9_shelf 42 = .ok (.iconst (-1), 1) := dop_2 (dn_w dw185_2 10 rfl)
theorem dX9_shelf_43 : decode cX9_shelf 43 = .ok (.goto 4, 3) := dop_167 (dn_w dw185_2 11 rfl) rfl
theorem dX9_shelf_46 : decode cX9_shelf 46 = .ok (.iload_n 2, 1) := dop_28 (dn_w dw185_2 14 rfl)
theorem dX9_shelf_47 : decode cX9_shelf 47 = .ok (.iastore, 1) := dop_79 (dn_w dw185_2 15 rfl)
theorem dX9_shelf_48 : decode cX9_shelf 48 = .ok (.aload_n 0, 1) := dop_42 (dn_w dw185_3 0 rfl)
theorem dX9_shelf_49 : decode cX9_shelf 49 = .ok (.getfield 72, 3) := dop_180 (dn_w dw185_3 1 rfl) rfl
theorem dX9_shelf_52 : decode cX9_shelf 52 = .ok (.iload_n 1, 1) := dop_27 (dn_w dw185_3 4 rfl)
theorem dX9_shelf_53 : decode cX9_shelf 53 = .ok (.iload_n 2, 1) := dop_28 (dn_w dw185_3 5 rfl)
theorem dX9_shelf_54 : decode cX9_shelf 54 = .ok (.iconst 1, 1) := dop_4 (dn_w dw185_3 6 rfl)
theorem dX9_shelf_55 : decode cX9_shelf 55 = .ok (.if_icmp .ne 12, 3) := dop_160 (dn_w dw185_3 7 rfl) rfl
theorem dX9_shelf_58 : decode cX9_shelf 58 = .ok (.aload_n 0, 1) := dop_42 (dn_w dw185_3 10 rfl)
theorem dX9_shelf_59 : decode cX9_shelf 59 = .ok (.getfield 59, 3) := dop_180 (dn_w dw185_3 11 rfl) rfl
theorem dX9_shelf_62 : decode cX9_shelf 62 = .ok (.iload_n 3, 1) := dop_29 (dn_w dw185_3 14 rfl)
theorem dX9_shelf_63 : decode cX9_shelf 63 = .ok (.iaload, 1) := dop_46 (dn_w dw185_3 15 rfl)
theorem dX9_shelf_64 : decode cX9_shelf 64 = .ok (.goto 4, 3) := dop_167 (dn_w dw185_4 0 rfl) rfl
theorem dX9_shelf_67 : decode cX9_shelf 67 = .ok (.iload_n 3, 1) := dop_29 (dn_w dw185_4 3 rfl)
theorem dX9_shelf_68 : decode cX9_shelf 68 = .ok (.iastore, 1) := dop_79 (dn_w dw185_4 4 rfl)
theorem dX9_shelf_69 : decode cX9_shelf 69 = .ok (.aload_n 0, 1) := dop_42 (dn_w dw185_4 5 rfl)
theorem dX9_shelf_70 : decode cX9_shelf 70 = .ok (.getfield 75, 3) := dop_180 (dn_w dw185_4 6 rfl) rfl
theorem dX9_shelf_73 : decode cX9_shelf 73 = .ok (.iload_n 1, 1) := dop_27 (dn_w dw185_4 9 rfl)
theorem dX9_shelf_74 : decode cX9_shelf 74 = .ok (.iload_n 2, 1) := dop_28 (dn_w dw185_4 10 rfl)
theorem dX9_shelf_75 : decode cX9_shelf 75 = .ok (.iconst 1, 1) := dop_4 (dn_w dw185_4 11 rfl)
theorem dX9_shelf_76 : decode cX9_shelf 76 = .ok (.if_icmp .ne 12, 3) := dop_160 (dn_w dw185_4 12 rfl) rfl
theorem dX9_shelf_79 : decode cX9_shelf 79 = .ok (.aload_n 0, 1) := dop_42 (dn_w dw185_4 15 rfl)
theorem dX9_shelf_80 : decode cX9_shelf 80 = .ok (.getfield 62, 3) := dop_180 (dn_w dw185_5 0 rfl) rfl
theorem dX9_shelf_83 : decode cX9_shelf 83 = .ok (.iload_n 3, 1) := dop_29 (dn_w dw185_5 3 rfl)
theorem dX9_shelf_84 : decode cX9_shelf 84 = .ok (.iaload, 1) := dop_46 (dn_w dw185_5 4 rfl)
theorem dX9_shelf_85 : decode cX9_shelf 85 = .ok (.goto 4, 3) := dop_167 (dn_w dw185_5 5 rfl) rfl
theorem dX9_shelf_88 : decode cX9_shelf 88 = .ok (.iconst 0, 1) := dop_3 (dn_w dw185_5 8 rfl)
theorem dX9_shelf_89 : decode cX9_shelf 89 = .ok (.iastore, 1) := dop_79 (dn_w dw185_5 9 rfl)
theorem dX9_shelf_90 : decode cX9_shelf 90 = .ok (.iconst 1, 1) := dop_4 (dn_w dw185_5 10 rfl)
theorem dX9_shelf_91 : decode cX9_shelf 91 = .ok (.ireturn, 1) := dop_172 (dn_w dw185_5 11 rfl)
noncomputable def dt186_3 : List Nat := 209 :: 167 :: 0 :: 4 :: 2 :: 172 :: []
noncomputable def dt186_2 : List Nat := 182 :: 0 :: 206 :: 153 :: 0 :: 17 :: 42 :: 42 :: 180 :: 0 :: 72 :: 27 :: 46 :: 3 :: 182 :: 0 :: dt186_3
noncomputable def dt186_1 : List Nat := 0 :: 7 :: 2 :: 167 :: 0 :: 5 :: 16 :: 9 :: 172 :: 42 :: 42 :: 180 :: 0 :: 72 :: 27 :: 46 :: dt186_2
noncomputable def dt186_0 : List Nat := 42 :: 180 :: 0 :: 69 :: 27 :: 46 :: 153 :: 0 :: 19 :: 42 :: 180 :: 0 :: 69 :: 27 :: 46 :: 156 :: dt186_1
theorem dw186_0 : dn cX9_kindOn 0 = dt186_0 := by decide +kernel
theorem dw186_1 : dn cX9_kindOn 16 = dt186_1 := dn_w dw186_0 16 rfl
theorem dw186_2 : dn cX9_kindOn 32 = dt186_2 := dn_w dw186_1 16 rfl
theorem dw186_3 : dn cX9_kindOn 48 = dt186_3 := dn_w dw186_2 16 rfl
theorem dX9_kindOn_0 : decode cX9_kindOn 0 = .ok (.aload_n 0, 1) := dop_42 (dn_w dw186_0 0 rfl)
theorem dX9_kindOn_1 : decode cX9_kindOn 1 = .ok (.getfield 69, 3) := dop_180 (dn_w dw186_0 1 rfl) rfl
theorem dX9_kindOn_4 : decode cX9_kindOn 4 = .ok (.iload_n 1, 1) := dop_27 (dn_w dw186_0 4 rfl)
theorem dX9_kindOn_5 : decode cX9_kindOn 5 = .ok (.iaload, 1) := dop_46 (dn_w dw186_0 5 rfl)
theorem dX9_kindOn_6 : decode cX9_kindOn 6 = .ok (.ifCond .eq 19, 3) := dop_153 (dn_w dw186_0 6 rfl) rfl
theorem dX9_kindOn_9 : decode cX9_kindOn 9 = .ok (.aload_n 0, 1) := dop_42 (dn_w dw186_0 9 rfl)
theorem dX9_kindOn_10 : decode cX9_kindOn 10 = .ok (.getfield 69, 3) := dop_180 (dn_w dw186_0 10 rfl) rfl
theorem dX9_kindOn_13 : decode cX9_kindOn 13 = .ok (.iload_n 1, 1) := dop_27 (dn_w dw186_0 13 rfl)
theorem dX9_kindOn_14 : decode cX9_kindOn 14 = .ok (.iaload, 1) := dop_46 (dn_w dw186_0 14 rfl)
theorem dX9_kindOn_15 : decode cX9_kindOn 15 = .ok (.ifCond .ge 7, 3) := dop_156 (dn_w dw186_0 15 rfl) rfl
theorem dX9_kindOn_18 : decode cX9_kindOn 18 = .ok (.iconst (-1), 1) := dop_2 (dn_w dw186_1 2 rfl)
theorem dX9_kindOn_19 : decode cX9_kindOn 19 = .ok (.goto 5, 3) := dop_167 (dn_w dw186_1 3 rfl) rfl
theorem dX9_kindOn_22 : decode cX9_kindOn 22 = .ok (.bipush 9, 2) := dop_16 (dn_w dw186_1 6 rfl) rfl
theorem dX9_kindOn_24 : decode cX9_kindOn 24 = .ok (.ireturn, 1) := dop_172 (dn_w dw186_1 8 rfl)
theorem dX9_kindOn_25 : decode cX9_kindOn 25 = .ok (.aload_n 0, 1) := dop_42 (dn_w dw186_1 9 rfl)
theorem dX9_kindOn_26 : decode cX9_kindOn 26 = .ok (.aload_n 0, 1) := dop_42 (dn_w dw186_1 10 rfl)
theorem dX9_kindOn_27 : decode cX9_kindOn 27 = .ok (.getfield 72, 3) := dop_180 (dn_w dw186_1 11 rfl) rfl
theorem dX9_kindOn_30 : decode cX9_kindOn 30 = .ok (.iload_n 1, 1) := dop_27 (dn_w dw186_1 14 rfl)
theorem dX9_kindOn_31 : decode cX9_kindOn 31 = .ok (.iaload, 1) := dop_46 (dn_w dw186_1 15 rfl)
theorem dX9_kindOn_32 : decode cX9_kindOn 32 = .ok (.invokevirtual 206, 3) := dop_182 (dn_w dw186_2 0 rfl) rfl
theorem dX9_kindOn_35 : decode cX9_kindOn 35 = .ok (.ifCond .eq 17, 3) := dop_153 (dn_w dw186_2 3 rfl) rfl
theorem dX9_kindOn_38 : decode cX9_kindOn 38 = .ok (.aload_n 0, 1) := dop_42 (dn_w dw186_2 6 rfl)
theorem dX9_kindOn_39 : decode cX9_kindOn 39 = .ok (.aload_n 0, 1) := dop_42 (dn_w dw186_2 7 rfl)
theorem dX9_kindOn_40 : decode cX9_kindOn 40 = .ok (.getfield 72, 3) := dop_180 (dn_w dw186_2 8 rfl) rfl
theorem dX9_kindOn_43 : decode cX9_kindOn 43 = .ok (.iload_n 1, 1) := dop_27 (dn_w dw186_2 11 rfl)
theorem dX9_kindOn_44 : decode cX9_kindOn 44 = .ok (.iaload, 1) := dop_46 (dn_w dw186_2 12 rfl)
theorem dX9_kindOn_45 : decode cX9_kindOn 45 = .ok (.iconst 0, 1) := dop_3 (dn_w dw186_2 13 rfl)
theorem dX9_kindOn_46 : decode cX9_kindOn 46 = .ok (.invokevirtual 209, 3) := dop_182 (dn_w dw186_2 14 rfl) rfl
theorem dX9_kindOn_49 : decode cX9_kindOn 49 = .ok (.goto 4, 3) := dop_167 (dn_w dw186_3 1 rfl) rfl
theorem dX9_kindOn_52 : decode cX9_kindOn 52 = .ok (.iconst (-1), 1) := dop_2 (dn_w dw186_3 4 rfl)
theorem dX9_kindOn_53 : decode cX9_kindOn 53 = .ok (.ireturn, 1) := dop_172 (dn_w dw186_3 5 rfl)
noncomputable def dt187_2 : List Nat := 4 :: 3 :: 172 :: []
noncomputable def dt187_1 : List Nat := 159 :: 0 :: 13 :: 27 :: 5 :: 160 :: 0 :: 12 :: 26 :: 8 :: 160 :: 0 :: 7 :: 4 :: 167 :: 0 :: dt187_2
noncomputable def dt187_0 : List Nat := 27 :: 153 :: 0 :: 28 :: 27 :: 26 :: 159 :: 0 :: 23 :: 27 :: 4 :: 160 :: 0 :: 8 :: 26 :: 7 :: dt187_1
theorem dw187_0 : dn cX9_isUnder 0 = dt187_0 := by decide +kernel
theorem dw187_1 : dn cX9_isUnder 16 = dt187_1 := dn_w dw187_0 16 rfl
theorem dw187_2 : dn cX9_isUnder 32 = dt187_2 := dn_w dw187_1 16 rfl
theorem dX9_isUnder_0 : decode cX9_isUnder 0 = .ok (.iload_n 1, 1) := dop_27 (dn_w dw187_0 0 rfl)
theorem dX9_isUnder_1 : decode cX9_isUnder 1 = .ok (.ifCond .eq 28, 3) := dop_153 (dn_w dw187_0 1 rfl) rfl
theorem dX9_isUnder_4 : decode cX9_isUnder 4 = .ok (.iload_n 1, 1) := dop_27 (dn_w dw187_0 4 rfl)
theorem dX9_isUnder_5 : decode cX9_isUnder 5 = .ok (.iload_n 0, 1) := dop_26 (dn_w dw187_0 5 rfl)
theorem dX9_isUnder_6 : decode cX9_isUnder 6 = .ok (.if_icmp .eq 23, 3) := dop_159 (dn_w dw187_0 6 rfl) rfl
theorem dX9_isUnder_9 : decode cX9_isUnder 9 = .ok (.iload_n 1, 1) := dop_27 (dn_w dw187_0 9 rfl)
theorem dX9_isUnder_10 : decode cX9_isUnder 10 = .ok (.iconst 1, 1) := dop_4 (dn_w dw187_0 10 rfl)
theorem dX9_isUnder_11 : decode cX9_isUnder 11 = .ok (.if_icmp .ne 8, 3) := dop_160 (dn_w dw187_0 11 rfl) rfl
theorem dX9_isUnder_14 : decode cX9_isUnder 14 = .ok (.iload_n 0, 1) := dop_26 (dn_w dw187_0 14 rfl)
theorem dX9_isUnder_15 : decode cX9_isUnder 15 = .ok (.iconst 4, 1) := dop_7 (dn_w dw187_0 15 rfl)
theorem dX9_isUnder_16 : decode cX9_isUnder 16 = .ok (.if_icmp .eq 13, 3) := dop_159 (dn_w dw187_1 0 rfl) rfl
theorem dX9_isUnder_19 : decode cX9_isUnder 19 = .ok (.iload_n 1, 1) := dop_27 (dn_w dw187_1 3 rfl)
theorem dX9_isUnder_20 : decode cX9_isUnder 20 = .ok (.iconst 2, 1) := dop_5 (dn_w dw187_1 4 rfl)
theorem dX9_isUnder_21 : decode cX9_isUnder 21 = .ok (.if_icmp .ne 12, 3) := dop_160 (dn_w dw187_1 5 rfl) rfl
theorem dX9_isUnder_24 : decode cX9_isUnder 24 = .ok (.iload_n 0, 1) := dop_26 (dn_w dw187_1 8 rfl)
theorem dX9_isUnder_25 : decode cX9_isUnder 25 = .ok (.iconst 5, 1) := dop_8 (dn_w dw187_1 9 rfl)
theorem dX9_isUnder_26 : decode cX9_isUnder 26 = .ok (.if_icmp .ne 7, 3) := dop_160 (dn_w dw187_1 10 rfl) rfl
theorem dX9_isUnder_29 : decode cX9_isUnder 29 = .ok (.iconst 1, 1) := dop_4 (dn_w dw187_1 13 rfl)
theorem dX9_isUnder_30 : decode cX9_isUnder 30 = .ok (.goto 4, 3) := dop_167 (dn_w dw187_1 14 rfl) rfl
theorem dX9_isUnder_33 : decode cX9_isUnder 33 = .ok (.iconst 0, 1) := dop_3 (dn_w dw187_2 1 rfl)
theorem dX9_isUnder_34 : decode cX9_isUnder 34 = .ok (.ireturn, 1) := dop_172 (dn_w dw187_2 2 rfl)
noncomputable def dt188_6 : List Nat := 16 :: 243 :: 172 :: []
noncomputable def dt188_5 : List Nat := 28 :: 184 :: 1 :: 24 :: 153 :: 0 :: 12 :: 42 :: 180 :: 0 :: 72 :: 27 :: 46 :: 167 :: 0 :: 5 :: dt188_6
noncomputable def dt188_4 : List Nat := 75 :: 27 :: 46 :: 167 :: 0 :: 5 :: 16 :: 243 :: 172 :: 28 :: 16 :: 10 :: 162 :: 0 :: 20 :: 29 :: dt188_5
noncomputable def dt188_3 : List Nat := 28 :: 16 :: 10 :: 42 :: 180 :: 0 :: 72 :: 27 :: 46 :: 96 :: 160 :: 0 :: 12 :: 42 :: 180 :: 0 :: dt188_4
noncomputable def dt188_2 : List Nat := 1 :: 21 :: 62 :: 29 :: 156 :: 0 :: 6 :: 16 :: 245 :: 172 :: 29 :: 16 :: 9 :: 160 :: 0 :: 28 :: dt188_3
noncomputable def dt188_1 : List Nat := 28 :: 16 :: 10 :: 16 :: 13 :: 184 :: 0 :: 87 :: 154 :: 0 :: 5 :: 2 :: 172 :: 42 :: 27 :: 182 :: dt188_2
noncomputable def dt188_0 : List Nat := 27 :: 184 :: 1 :: 10 :: 153 :: 0 :: 23 :: 28 :: 3 :: 8 :: 184 :: 0 :: 87 :: 154 :: 0 :: 16 :: dt188_1
theorem dw188_0 : dn cX9_taken 0 = dt188_0 := by decide +kernel
theorem dw188_1 : dn cX9_taken 16 = dt188_1 := dn_w dw188_0 16 rfl
theorem dw188_2 : dn cX9_taken 32 = dt188_2 := dn_w dw188_1 16 rfl
theorem dw188_3 : dn cX9_taken 48 = dt188_3 := dn_w dw188_2 16 rfl
theorem dw188_4 : dn cX9_taken 64 = dt188_4 := dn_w dw188_3 16 rfl
theorem dw188_5 : dn cX9_taken 80 = dt188_5 := dn_w dw188_4 16 rfl
theorem dw188_6 : dn cX9_taken 96 = dt188_6 := dn_w dw188_5 16 rfl
theorem dX9_taken_0 : decode cX9_taken 0 = .ok (.iload_n 1, 1) := dop_27 (dn_w dw188_0 0 rfl)
theorem dX9_taken_1 : decode cX9_taken 1 = .ok (.invokestatic 266, 3) := dop_184 (dn_w dw188_0 1 rfl) rfl
theorem dX9_taken_4 : decode cX9_taken 4 = .ok (.ifCond .eq 23, 3) := dop_153 (dn_w dw188_0 4 rfl) rfl
theorem dX9_taken_7 : decode cX9_taken 7 = .ok (.iload_n 2, 1) := dop_28 (dn_w dw188_0 7 rfl)
theorem dX9_taken_8 : decode cX9_taken 8 = .ok (.iconst 0, 1) := dop_3 (dn_w dw188_0 8 rfl)
theorem dX9_taken_9 : decode cX9_taken 9 = .ok (.iconst 5, 1) := dop_8 (dn_w dw188_0 9 rfl)
theorem dX9_taken_10 : decode cX9_taken 10 = .ok (.invokestatic 87, 3) := dop_184 (dn_w dw188_0 10 rfl) rfl
theorem dX9_taken_13 : decode cX9_taken 13 = .ok (.ifCond .ne 16, 3) := dop_154 (dn_w dw188_0 13 rfl) rfl
theorem dX9_taken_16 : decode cX9_taken 16 = .ok (.iload_n 2, 1) := dop_28 (dn_w dw188_1 0 rfl)
theorem dX9_taken_17 : decode cX9_taken 17 = .ok (.bipush 10, 2) := dop_16 (dn_w dw188_1 1 rfl) rfl
theorem dX9_taken_19 : decode cX9_taken 19 = .ok (.bipush 13, 2) := dop_16 (dn_w dw188_1 3 rfl) rfl
theorem dX9_taken_21 : decode cX9_taken 21 = .ok (.invokestatic 87, 3) := dop_184 (dn_w dw188_1 5 rfl) rfl
theorem dX9_taken_24 : decode cX9_taken 24 = .ok (.ifCond .ne 5, 3) := dop_154 (dn_w dw188_1 8 rfl) rfl
theorem dX9_taken_27 : decode cX9_taken 27 = .ok (.iconst (-1), 1) := dop_2 (dn_w dw188_1 11 rfl)
theorem dX9_taken_28 : decode cX9_taken 28 = .ok (.ireturn, 1) := dop_172 (dn_w dw188_1 12 rfl)
theorem dX9_taken_29 : decode cX9_taken 29 = .ok (.aload_n 0, 1) := dop_42 (dn_w dw188_1 13 rfl)
theorem dX9_taken_30 : decode cX9_taken 30 = .ok (.iload_n 1, 1) := dop_27 (dn_w dw188_1 14 rfl)
theorem dX9_taken_31 : decode cX9_taken 31 = .ok (.invokevirtual 277, 3) := dop_182 (dn_w dw188_1 15 rfl) rfl
theorem dX9_taken_34 : decode cX9_taken 34 = .ok (.istore_n 3, 1) := dop_62 (dn_w dw188_2 2 rfl)
theorem dX9_taken_35 : decode cX9_taken 35 = .ok (.iload_n 3, 1) := dop_29 (dn_w dw188_2 3 rfl)
theorem dX9_taken_36 : decode cX9_taken 36 = .ok (.ifCond .ge 6, 3) := dop_156 (dn_w dw188_2 4 rfl) rfl
theorem dX9_taken_39 : decode cX9_taken 39 = .ok (.bipush (-11), 2) := dop_16 (dn_w dw188_2 7 rfl) rfl
theorem dX9_taken_41 : decode cX9_taken 41 = .ok (.ireturn, 1) := dop_172 (dn_w dw188_2 9 rfl)
theorem dX9_taken_42 : decode cX9_taken 42 = .ok (.iload_n 3, 1) := dop_29 (dn_w dw188_2 10 rfl)
theorem dX9_taken_43 : decode cX9_taken 43 = .ok (.bipush 9, 2) := dop_16 (dn_w dw188_2 11 rfl) rfl
theorem dX9_taken_45 : decode cX9_taken 45 = .ok (.if_icmp .ne 28, 3) := dop_160 (dn_w dw188_2 13 rfl) rfl
theorem dX9_taken_48 : decode cX9_taken 48 = .ok (.iload_n 2, 1) := dop_28 (dn_w dw188_3 0 rfl)
theorem dX9_taken_49 : decode cX9_taken 49 = .ok (.bipush 10, 2) := dop_16 (dn_w dw188_3 1 rfl) rfl
theorem dX9_taken_51 : decode cX9_taken 51 = .ok (.aload_n 0, 1) := dop_42 (dn_w dw188_3 3 rfl)
theorem dX9_taken_52 : decode cX9_taken 52 = .ok (.getfield 72, 3) := dop_180 (dn_w dw188_3 4 rfl) rfl
theorem dX9_taken_55 : decode cX9_taken 55 = .ok (.iload_n 1, 1) := dop_27 (dn_w dw188_3 7 rfl)
theorem dX9_taken_56 : decode cX9_taken 56 = .ok (.iaload, 1) := dop_46 (dn_w dw188_3 8 rfl)
theorem dX9_taken_57 : decode cX9_taken 57 = .ok (.iadd, 1) := dop_96 (dn_w dw188_3 9 rfl)
theorem dX9_taken_58 : decode cX9_taken 58 = .ok (.if_icmp .ne 12, 3) := dop_160 (dn_w dw188_3 10 rfl) rfl
theorem dX9_taken_61 : decode cX9_taken 61 = .ok (.aload_n 0, 1) := dop_42 (dn_w dw188_3 13 rfl)
theorem dX9_taken_62 : decode cX9_taken 62 = .ok (.getfield 75, 3) := dop_180 (dn_w dw188_3 14 rfl) rfl
theorem dX9_taken_65 : decode cX9_taken 65 = .ok (.iload_n 1, 1) := dop_27 (dn_w dw188_4 1 rfl)
theorem dX9_taken_66 : decode cX9_taken 66 = .ok (.iaload, 1) := dop_46 (dn_w dw188_4 2 rfl)
theorem dX9_taken_67 : decode cX9_taken 67 = .ok (.goto 5, 3) := dop_167 (dn_w dw188_4 3 rfl) rfl
theorem dX9_taken_70 : decode cX9_taken 70 = .ok (.bipush (-13), 2) := dop_16 (dn_w dw188_4 6 rfl) rfl
theorem dX9_taken_72 : decode cX9_taken 72 = .ok (.ireturn, 1) := dop_172 (dn_w dw188_4 8 rfl)
theorem dX9_taken_73 : decode cX9_taken 73 = .ok (.iload_n 2, 1) := dop_28 (dn_w dw188_4 9 rfl)
theorem dX9_taken_74 : decode cX9_taken 74 = .ok (.bipush 10, 2) := dop_16 (dn_w dw188_4 10 rfl) rfl
theorem dX9_taken_76 : decode cX9_taken 76 = .ok (.if_icmp .ge 20, 3) := dop_162 (dn_w dw188_4 12 rfl) rfl
theorem dX9_taken_79 : decode cX9_taken 79 = .ok (.iload_n 3, 1) := dop_29 (dn_w dw188_4 15 rfl)
theorem dX9_taken_80 : decode cX9_taken 80 = .ok (.iload_n 2, 1) := dop_28 (dn_w dw188_5 0 rfl)
theorem dX9_taken_81 : decode cX9_taken 81 = .ok (.invokestatic 280, 3) := dop_184 (dn_w dw188_5 1 rfl) rfl
theorem dX9_taken_84 : decode cX9_taken 84 = .ok (.ifCond .eq 12, 3) := dop_153 (dn_w dw188_5 4 rfl) rfl
theorem dX9_taken_87 : decode cX9_taken 87 = .ok (.aload_n 0, 1) := dop_42 (dn_w dw188_5 7 rfl)
theorem dX9_taken_88 : decode cX9_taken 88 = .ok (.getfield 72, 3) := dop_180 (dn_w dw188_5 8 rfl) rfl
theorem dX9_taken_91 : decode cX9_taken 91 = .ok (.iload_n 1, 1) := dop_27 (dn_w dw188_5 11 rfl)
theorem dX9_taken_92 : decode cX9_taken 92 = .ok (.iaload, 1) := dop_46 (dn_w dw188_5 12 rfl)
theorem dX9_taken_93 : decode cX9_taken 93 = .ok (.goto 5, 3) := dop_167 (dn_w dw188_5 13 rfl) rfl
theorem dX9_taken_96 : decode cX9_taken 96 = .ok (.bipush (-13), 2) := dop_16 (dn_w dw188_6 0 rfl) rfl
theorem dX9_taken_98 : decode cX9_taken 98 = .ok (.ireturn, 1) := dop_172 (dn_w dw188_6 2 rfl)
noncomputable def dt189_1 : List Nat := 27 :: 27 :: 79 :: 42 :: 89 :: 180 :: 1 :: 27 :: 4 :: 96 :: 181 :: 1 :: 27 :: 177 :: []
noncomputable def dt189_0 : List Nat := 42 :: 180 :: 1 :: 27 :: 16 :: 30 :: 162 :: 0 :: 23 :: 42 :: 180 :: 0 :: 78 :: 42 :: 180 :: 1 :: dt189_1
theorem dw189_0 : dn cX9_ran 0 = dt189_0 := by decide +kernel
theorem dw189_1 : dn cX9_ran 16 = dt189_1 := dn_w dw189_0 16 rfl
theorem dX9_ran_0 : decode cX9_ran 0 = .ok (.aload_n 0, 1) := dop_42 (dn_w dw189_0 0 rfl)
theorem dX9_ran_1 : decode cX9_ran 1 = .ok (.getfield 283, 3) := dop_180 (dn_w dw189_0 1 rfl) rfl
theorem dX9_ran_4 : decode cX9_ran 4 = .ok (.bipush 30, 2) := dop_16 (dn_w dw189_0 4 rfl) rfl
theorem dX9_ran_6 : decode cX9_ran 6 = .ok (.if_icmp .ge 23, 3) := dop_162 (dn_w dw189_0 6 rfl) rfl
theorem dX9_ran_9 : decode cX9_ran 9 = .ok (.aload_n 0, 1) := dop_42 (dn_w dw189_0 9 rfl)
theorem dX9_ran_10 : decode cX9_ran 10 = .ok (.getfield 78, 3) := dop_180 (dn_w dw189_0 10 rfl) rfl
theorem dX9_ran_13 : decode cX9_ran 13 = .ok (.aload_n 0, 1) := dop_42 (dn_w dw189_0 13 rfl)
theorem dX9_ran_14 : decode cX9_ran 14 = .ok (.getfield 283, 3) := dop_180 (dn_w dw189_0 14 rfl) rfl
theorem dX9_ran_17 : decode cX9_ran 17 = .ok (.iload_n 1, 1) := dop_27 (dn_w dw189_1 1 rfl)
theorem dX9_ran_18 : decode cX9_ran 18 = .ok (.iastore, 1) := dop_79 (dn_w dw189_1 2 rfl)
theorem dX9_ran_19 : decode cX9_ran 19 = .ok (.aload_n 0, 1) := dop_42 (dn_w dw189_1 3 rfl)
theorem dX9_ran_20 : decode cX9_ran 20 = .ok (.dup, 1) := dop_89 (dn_w dw189_1 4 rfl)
theorem dX9_ran_21 : decode cX9_ran 21 = .ok (.getfield 283, 3) := dop_180 (dn_w dw189_1 5 rfl) rfl
theorem dX9_ran_24 : decode cX9_ran 24 = .ok (.iconst 1, 1) := dop_4 (dn_w dw189_1 8 rfl)
theorem dX9_ran_25 : decode cX9_ran 25 = .ok (.iadd, 1) := dop_96 (dn_w dw189_1 9 rfl)
theorem dX9_ran_26 : decode cX9_ran 26 = .ok (.putfield 283, 3) := dop_181 (dn_w dw189_1 10 rfl) rfl
theorem dX9_ran_29 : decode cX9_ran 29 = .ok (.return_, 1) := dop_177 (dn_w dw189_1 13 rfl)
noncomputable def dt190_0 : List Nat := 42 :: 16 :: 10 :: 182 :: 1 :: 30 :: 27 :: 42 :: 180 :: 1 :: 33 :: 96 :: 172 :: []
theorem dw190_0 : dn cX9_plainKnocks 0 = dt190_0 := by decide +kernel
theorem dX9_plainKnocks_0 : decode cX9_plainKnocks 0 = .ok (.aload_n 0, 1) := dop_42 (dn_w dw190_0 0 rfl)
theorem dX9_plainKnocks_1 : decode cX9_plainKnocks 1 = .ok (.bipush 10, 2) := dop_16 (dn_w dw190_0 1 rfl) rfl
theorem dX9_plainKnocks_3 : decode cX9_plainKnocks 3 = .ok (.invokevirtual 286, 3) := dop_182 (dn_w dw190_0 3 rfl) rfl
theorem dX9_plainKnocks_6 : decode cX9_plainKnocks 6 = .ok (.iload_n 1, 1) := dop_27 (dn_w dw190_0 6 rfl)
theorem dX9_plainKnocks_7 : decode cX9_plainKnocks 7 = .ok (.aload_n 0, 1) := dop_42 (dn_w dw190_0 7 rfl)
theorem dX9_plainKnocks_8 : decode cX9_plainKnocks 8 = .ok (.getfield 289, 3) := dop_180 (dn_w dw190_0 8 rfl) rfl
theorem dX9_plainKnocks_11 : decode cX9_plainKnocks 11 = .ok (.iadd, 1) := dop_96 (dn_w dw190_0 11 rfl)
theorem dX9_plainKnocks_12 : decode cX9_plainKnocks 12 = .ok (.ireturn, 1) := dop_172 (dn_w dw190_0 12 rfl)
noncomputable def dt191_0 : List Nat := 42 :: 16 :: 30 :: 182 :: 1 :: 30 :: 42 :: 27 :: 182 :: 1 :: 36 :: 6 :: 104 :: 172 :: []
theorem dw191_0 : dn cX9_illKnocks 0 = dt191_0 := by decide +kernel
theorem dX9_illKnocks_0 : decode cX9_illKnocks 0 = .ok (.aload_n 0, 1) := dop_42 (dn_w dw191_0 0 rfl)
theorem dX9_illKnocks_1 : decode cX9_illKnocks 1 = .ok (.bipush 30, 2) := dop_16 (dn_w dw191_0 1 rfl) rfl
theorem dX9_illKnocks_3 : decode cX9_illKnocks 3 = .ok (.invokevirtual 286, 3) := dop_182 (dn_w dw191_0 3 rfl) rfl
theorem dX9_illKnocks_6 : decode cX9_illKnocks 6 = .ok (.aload_n 0, 1) := dop_42 (dn_w dw191_0 6 rfl)
theorem dX9_illKnocks_7 : decode cX9_illKnocks 7 = .ok (.iload_n 1, 1) := dop_27 (dn_w dw191_0 7 rfl)
theorem dX9_illKnocks_8 : decode cX9_illKnocks 8 = .ok (.invokevirtual 292, 3) := dop_182 (dn_w dw191_0 8 rfl) rfl
theorem dX9_illKnocks_11 : decode cX9_illKnocks 11 = .ok (.iconst 3, 1) := dop_6 (dn_w dw191_0 11 rfl)
theorem dX9_illKnocks_12 : decode cX9_illKnocks 12 = .ok (.imul, 1) := dop_104 (dn_w dw191_0 12 rfl)
theorem dX9_illKnocks_13 : decode cX9_illKnocks 13 = .ok (.ireturn, 1) := dop_172 (dn_w dw191_0 13 rfl)
noncomputable def dt192_4 : List Nat := 182 :: 1 :: 36 :: 42 :: 180 :: 1 :: 33 :: 100 :: 172 :: 42 :: 27 :: 182 :: 1 :: 36 :: 172 :: []
noncomputable def dt192_3 : List Nat := 3 :: 42 :: 27 :: 182 :: 1 :: 42 :: 100 :: 172 :: 42 :: 16 :: 51 :: 182 :: 1 :: 30 :: 42 :: 27 :: dt192_4
noncomputable def dt192_2 : List Nat := 0 :: 0 :: 0 :: 38 :: 42 :: 27 :: 182 :: 1 :: 42 :: 172 :: 42 :: 16 :: 40 :: 182 :: 1 :: 30 :: dt192_3
noncomputable def dt192_1 : List Nat := 0 :: 0 :: 0 :: 5 :: 0 :: 0 :: 0 :: 32 :: 0 :: 0 :: 0 :: 69 :: 0 :: 0 :: 0 :: 52 :: dt192_2
noncomputable def dt192_0 : List Nat := 42 :: 180 :: 1 :: 39 :: 170 :: 0 :: 0 :: 0 :: 0 :: 0 :: 0 :: 69 :: 0 :: 0 :: 0 :: 2 :: dt192_1
theorem dw192_0 : dn cX9_knocksIt 0 = dt192_0 := by decide +kernel
theorem dw192_1 : dn cX9_knocksIt 16 = dt192_1 := dn_w dw192_0 16 rfl
theorem dw192_2 : dn cX9_knocksIt 32 = dt192_2 := dn_w dw192_1 16 rfl
theorem dw192_3 : dn cX9_knocksIt 48 = dt192_3 := dn_w dw192_2 16 rfl
theorem dw192_4 : dn cX9_knocksIt 64 = dt192_4 := dn_w dw192_3 16 rfl
theorem dX9_knocksIt_0 : decode cX9_knocksIt 0 = .ok (.aload_n 0, 1) := dop_42 (dn_w dw192_0 0 rfl)
theorem dX9_knocksIt_1 : decode cX9_knocksIt 1 = .ok (.getfield 295, 3) := dop_180 (dn_w dw192_0 1 rfl) rfl
theorem dX9_knocksIt_4 : decode cX9_knocksIt 4 = .ok (.tableswitch 69 2 5 #[32, 69, 52, 38], 32) := by decide +kernel
theorem dX9_knocksIt_36 : decode cX9_knocksIt 36 = .ok (.aload_n 0, 1) := dop_42 (dn_w dw192_2 4 rfl)
theorem dX9_knocksIt_37 : decode cX9_knocksIt 37 = .ok (.iload_n 1, 1) := dop_27 (dn_w dw192_2 5 rfl)
theorem dX9_knocksIt_38 : decode cX9_knocksIt 38 = .ok (.invokevirtual 298, 3) := dop_182 (dn_w dw192_2 6 rfl) rfl
theorem dX9_knocksIt_41 : decode cX9_knocksIt 41 = .ok (.ireturn, 1) := dop_172 (dn_w dw192_2 9 rfl)
theorem dX9_knocksIt_42 : decode cX9_knocksIt 42 = .ok (.aload_n 0, 1) := dop_42 (dn_w dw192_2 10 rfl)
theorem dX9_knocksIt_43 : decode cX9_knocksIt 43 = .ok (.bipush 40, 2) := dop_16 (dn_w dw192_2 11 rfl) rfl
theorem dX9_knocksIt_45 : decode cX9_knocksIt 45 = .ok (.invokevirtual 286, 3) := dop_182 (dn_w dw192_2 13 rfl) rfl
theorem dX9_knocksIt_48 : decode cX9_knocksIt 48 = .ok (.iconst 0, 1) := dop_3 (dn_w dw192_3 0 rfl)
theorem dX9_knocksIt_49 : decode cX9_knocksIt 49 = .ok (.aload_n 0, 1) := dop_42 (dn_w dw192_3 1 rfl)
theorem dX9_knocksIt_50 : decode cX9_knocksIt 50 = .ok (.iload_n 1, 1) := dop_27 (dn_w dw192_3 2 rfl)
theorem dX9_knocksIt_51 : decode cX9_knocksIt 51 = .ok (.invokevirtual 298, 3) := dop_182 (dn_w dw192_3 3 rfl) rfl
theorem dX9_knocksIt_54 : decode cX9_knocksIt 54 = .ok (.isub, 1) := dop_100 (dn_w dw192_3 6 rfl)
theorem dX9_knocksIt_55 : decode cX9_knocksIt 55 = .ok (.ireturn, 1) := dop_172 (dn_w dw192_3 7 rfl)
theorem dX9_knocksIt_56 : decode cX9_knocksIt 56 = .ok (.aload_n 0, 1) := dop_42 (dn_w dw192_3 8 rfl)
theorem dX9_knocksIt_57 : decode cX9_knocksIt 57 = .ok (.bipush 51, 2) := dop_16 (dn_w dw192_3 9 rfl) rfl
theorem dX9_knocksIt_59 : decode cX9_knocksIt 59 = .ok (.invokevirtual 286, 3) := dop_182 (dn_w dw192_3 11 rfl) rfl
theorem dX9_knocksIt_62 : decode cX9_knocksIt 62 = .ok (.aload_n 0, 1) := dop_42 (dn_w dw192_3 14 rfl)
theorem dX9_knocksIt_63 : decode cX9_knocksIt 63 = .ok (.iload_n 1, 1) := dop_27 (dn_w dw192_3 15 rfl)
theorem dX9_knocksIt_64 : decode cX9_knocksIt 64 = .ok (.invokevirtual 292, 3) := dop_182 (dn_w dw192_4 0 rfl) rfl
theorem dX9_knocksIt_67 : decode cX9_knocksIt 67 = .ok (.aload_n 0, 1) := dop_42 (dn_w dw192_4 3 rfl)
theorem dX9_knocksIt_68 : decode cX9_knocksIt 68 = .ok (.getfield 289, 3) := dop_180 (dn_w dw192_4 4 rfl) rfl
theorem dX9_knocksIt_71 : decode cX9_knocksIt 71 = .ok (.isub, 1) := dop_100 (dn_w dw192_4 7 rfl)
theorem dX9_knocksIt_72 : decode cX9_knocksIt 72 = .ok (.ireturn, 1) := dop_172 (dn_w dw192_4 8 rfl)
theorem dX9_knocksIt_73 : decode cX9_knocksIt 73 = .ok (.aload_n 0, 1) := dop_42 (dn_w dw192_4 9 rfl)
theorem dX9_knocksIt_74 : decode cX9_knocksIt 74 = .ok (.iload_n 1, 1) := dop_27 (dn_w dw192_4 10 rfl)
theorem dX9_knocksIt_75 : decode cX9_knocksIt 75 = .ok (.invokevirtual 292, 3) := dop_182 (dn_w dw192_4 11 rfl) rfl
theorem dX9_knocksIt_78 : decode cX9_knocksIt 78 = .ok (.ireturn, 1) := dop_172 (dn_w dw192_4 14 rfl)
noncomputable def dt193_0 : List Nat := 42 :: 16 :: 11 :: 182 :: 1 :: 30 :: 42 :: 27 :: 182 :: 1 :: 45 :: 5 :: 104 :: 172 :: []
theorem dw193_0 : dn cX9_plainCrosses 0 = dt193_0 := by decide +kernel
theorem dX9_plainCrosses_0 : decode cX9_plainCrosses 0 = .ok (.aload_n 0, 1) := dop_42 (dn_w dw193_0 0 rfl)
theorem dX9_plainCrosses_1 : decode cX9_plainCrosses 1 = .ok (.bipush 11, 2) := dop_16 (dn_w dw193_0 1 rfl) rfl
theorem dX9_plainCrosses_3 : decode cX9_plainCrosses 3 = .ok (.invokevirtual 286, 3) := dop_182 (dn_w dw193_0 3 rfl) rfl
theorem dX9_plainCrosses_6 : decode cX9_plainCrosses 6 = .ok (.aload_n 0, 1) := dop_42 (dn_w dw193_0 6 rfl)
theorem dX9_plainCrosses_7 : decode cX9_plainCrosses 7 = .ok (.iload_n 1, 1) := dop_27 (dn_w dw193_0 7 rfl)
theorem dX9_plainCrosses_8 : decode cX9_plainCrosses 8 = .ok (.invokevirtual 301, 3) := dop_182 (dn_w dw193_0 8 rfl) rfl
theorem dX9_plainCrosses_11 : decode cX9_plainCrosses 11 = .ok (.iconst 2, 1) := dop_5 (dn_w dw193_0 11 rfl)
theorem dX9_plainCrosses_12 : decode cX9_plainCrosses 12 = .ok (.imul, 1) := dop_104 (dn_w dw193_0 12 rfl)
theorem dX9_plainCrosses_13 : decode cX9_plainCrosses 13 = .ok (.ireturn, 1) := dop_172 (dn_w dw193_0 13 rfl)
noncomputable def dt194_4 : List Nat := 42 :: 27 :: 182 :: 1 :: 48 :: 172 :: []
noncomputable def dt194_3 : List Nat := 27 :: 182 :: 1 :: 48 :: 61 :: 28 :: 42 :: 42 :: 180 :: 1 :: 33 :: 182 :: 1 :: 45 :: 96 :: 172 :: dt194_4
noncomputable def dt194_2 : List Nat := 172 :: 42 :: 180 :: 1 :: 39 :: 8 :: 160 :: 0 :: 26 :: 42 :: 16 :: 41 :: 182 :: 1 :: 30 :: 42 :: dt194_3
noncomputable def dt194_1 : List Nat := 42 :: 16 :: 20 :: 182 :: 1 :: 30 :: 42 :: 27 :: 182 :: 1 :: 48 :: 42 :: 180 :: 1 :: 51 :: 100 :: dt194_2
noncomputable def dt194_0 : List Nat := 42 :: 180 :: 1 :: 39 :: 4 :: 159 :: 0 :: 11 :: 42 :: 180 :: 1 :: 39 :: 7 :: 160 :: 0 :: 20 :: dt194_1
theorem dw194_0 : dn cX9_crossesIt 0 = dt194_0 := by decide +kernel
theorem dw194_1 : dn cX9_crossesIt 16 = dt194_1 := dn_w dw194_0 16 rfl
theorem dw194_2 : dn cX9_crossesIt 32 = dt194_2 := dn_w dw194_1 16 rfl
theorem dw194_3 : dn cX9_crossesIt 48 = dt194_3 := dn_w dw194_2 16 rfl
theorem dw194_4 : dn cX9_crossesIt 64 = dt194_4 := dn_w dw194_3 16 rfl
theorem dX9_crossesIt_0 : decode cX9_crossesIt 0 = .ok (.aload_n 0, 1) := dop_42 (dn_w dw194_0 0 rfl)
theorem dX9_crossesIt_1 : decode cX9_crossesIt 1 = .ok (.getfield 295, 3) := dop_180 (dn_w dw194_0 1 rfl) rfl
theorem dX9_crossesIt_4 : decode cX9_crossesIt 4 = .ok (.iconst 1, 1) := dop_4 (dn_w dw194_0 4 rfl)
theorem dX9_crossesIt_5 : decode cX9_crossesIt 5 = .ok (.if_icmp .eq 11, 3) := dop_159 (dn_w dw194_0 5 rfl) rfl
theorem dX9_crossesIt_8 : decode cX9_crossesIt 8 = .ok (.aload_n 0, 1) := dop_42 (dn_w dw194_0 8 rfl)
theorem dX9_crossesIt_9 : decode cX9_crossesIt 9 = .ok (.getfield 295, 3) := dop_180 (dn_w dw194_0 9 rfl) rfl
theorem dX9_crossesIt_12 : decode cX9_crossesIt 12 = .ok (.iconst 4, 1) := dop_7 (dn_w dw194_0 12 rfl)
theorem dX9_crossesIt_13 : decode cX9_crossesIt 13 = .ok (.if_icmp .ne 20, 3) := dop_160 (dn_w dw194_0 13 rfl) rfl
theorem dX9_crossesIt_16 : decode cX9_crossesIt 16 = .ok (.aload_n 0, 1) := dop_42 (dn_w dw194_1 0 rfl)
theorem dX9_crossesIt_17 : decode cX9_crossesIt 17 = .ok (.bipush 20, 2) := dop_16 (dn_w dw194_1 1 rfl) rfl
theorem dX9_crossesIt_19 : decode cX9_crossesIt 19 = .ok (.invokevirtual 286, 3) := dop_182 (dn_w dw194_1 3 rfl) rfl
theorem dX9_crossesIt_22 : decode cX9_crossesIt 22 = .ok (.aload_n 0, 1) := dop_42 (dn_w dw194_1 6 rfl)
theorem dX9_crossesIt_23 : decode cX9_crossesIt 23 = .ok (.iload_n 1, 1) := dop_27 (dn_w dw194_1 7 rfl)
theorem dX9_crossesIt_24 : decode cX9_crossesIt 24 = .ok (.invokevirtual 304, 3) := dop_182 (dn_w dw194_1 8 rfl) rfl
theorem dX9_crossesIt_27 : decode cX9_crossesIt 27 = .ok (.aload_n 0, 1) := dop_42 (dn_w dw194_1 11 rfl)
theorem dX9_crossesIt_28 : decode cX9_crossesIt 28 = .ok (.getfield 307, 3) := dop_180 (dn_w dw194_1 12 rfl) rfl
theorem dX9_crossesIt_31 : decode cX9_crossesIt 31 = .ok (.isub, 1) := dop_100 (dn_w dw194_1 15 rfl)
theorem dX9_crossesIt_32 : decode cX9_crossesIt 32 = .ok (.ireturn, 1) := dop_172 (dn_w dw194_2 0 rfl)
theorem dX9_crossesIt_33 : decode cX9_crossesIt 33 = .ok (.aload_n 0, 1) := dop_42 (dn_w dw194_2 1 rfl)
theorem dX9_crossesIt_34 : decode cX9_crossesIt 34 = .ok (.getfield 295, 3) := dop_180 (dn_w dw194_2 2 rfl) rfl
theorem dX9_crossesIt_37 : decode cX9_crossesIt 37 = .ok (.iconst 5, 1) := dop_8 (dn_w dw194_2 5 rfl)
theorem dX9_crossesIt_38 : decode cX9_crossesIt 38 = .ok (.if_icmp .ne 26, 3) := dop_160 (dn_w dw194_2 6 rfl) rfl
theorem dX9_crossesIt_41 : decode cX9_crossesIt 41 = .ok (.aload_n 0, 1) := dop_42 (dn_w dw194_2 9 rfl)
theorem dX9_crossesIt_42 : decode cX9_crossesIt 42 = .ok (.bipush 41, 2) := dop_16 (dn_w dw194_2 10 rfl) rfl
theorem dX9_crossesIt_44 : decode cX9_crossesIt 44 = .ok (.invokevirtual 286, 3) := dop_182 (dn_w dw194_2 12 rfl) rfl
theorem dX9_crossesIt_47 : decode cX9_crossesIt 47 = .ok (.aload_n 0, 1) := dop_42 (dn_w dw194_2 15 rfl)
theorem dX9_crossesIt_48 : decode cX9_crossesIt 48 = .ok (.iload_n 1, 1) := dop_27 (dn_w dw194_3 0 rfl)
theorem dX9_crossesIt_49 : decode cX9_crossesIt 49 = .ok (.invokevirtual 304, 3) := dop_182 (dn_w dw194_3 1 rfl) rfl
theorem dX9_crossesIt_52 : decode cX9_crossesIt 52 = .ok (.istore_n 2, 1) := dop_61 (dn_w dw194_3 4 rfl)
theorem dX9_crossesIt_53 : decode cX9_crossesIt 53 = .ok (.iload_n 2, 1) := dop_28 (dn_w dw194_3 5 rfl)
theorem dX9_crossesIt_54 : decode cX9_crossesIt 54 = .ok (.aload_n 0, 1) := dop_42 (dn_w dw194_3 6 rfl)
theorem dX9_crossesIt_55 : decode cX9_crossesIt 55 = .ok (.aload_n 0, 1) := dop_42 (dn_w dw194_3 7 rfl)
theorem dX9_crossesIt_56 : decode cX9_crossesIt 56 = .ok (.getfield 289, 3) := dop_180 (dn_w dw194_3 8 rfl) rfl
theorem dX9_crossesIt_59 : decode cX9_crossesIt 59 = .ok (.invokevirtual 301, 3) := dop_182 (dn_w dw194_3 11 rfl) rfl
theorem dX9_crossesIt_62 : decode cX9_crossesIt 62 = .ok (.iadd, 1) := dop_96 (dn_w dw194_3 14 rfl)
theorem dX9_crossesIt_63 : decode cX9_crossesIt 63 = .ok (.ireturn, 1) := dop_172 (dn_w dw194_3 15 rfl)
theorem dX9_crossesIt_64 : decode cX9_crossesIt 64 = .ok (.aload_n 0, 1) := dop_42 (dn_w dw194_4 0 rfl)
theorem dX9_crossesIt_65 : decode cX9_crossesIt 65 = .ok (.iload_n 1, 1) := dop_27 (dn_w dw194_4 1 rfl)
theorem dX9_crossesIt_66 : decode cX9_crossesIt 66 = .ok (.invokevirtual 304, 3) := dop_182 (dn_w dw194_4 2 rfl) rfl
theorem dX9_crossesIt_69 : decode cX9_crossesIt 69 = .ok (.ireturn, 1) := dop_172 (dn_w dw194_4 5 rfl)
noncomputable def dt195_2 : List Nat := 33 :: 100 :: 108 :: 172 :: []
noncomputable def dt195_1 : List Nat := 10 :: 42 :: 4 :: 181 :: 1 :: 54 :: 3 :: 172 :: 27 :: 42 :: 180 :: 1 :: 51 :: 42 :: 180 :: 1 :: dt195_2
noncomputable def dt195_0 : List Nat := 42 :: 16 :: 12 :: 182 :: 1 :: 30 :: 42 :: 180 :: 1 :: 51 :: 42 :: 180 :: 1 :: 33 :: 160 :: 0 :: dt195_1
theorem dw195_0 : dn cX9_plainShares 0 = dt195_0 := by decide +kernel
theorem dw195_1 : dn cX9_plainShares 16 = dt195_1 := dn_w dw195_0 16 rfl
theorem dw195_2 : dn cX9_plainShares 32 = dt195_2 := dn_w dw195_1 16 rfl
theorem dX9_plainShares_0 : decode cX9_plainShares 0 = .ok (.aload_n 0, 1) := dop_42 (dn_w dw195_0 0 rfl)
theorem dX9_plainShares_1 : decode cX9_plainShares 1 = .ok (.bipush 12, 2) := dop_16 (dn_w dw195_0 1 rfl) rfl
theorem dX9_plainShares_3 : decode cX9_plainShares 3 = .ok (.invokevirtual 286, 3) := dop_182 (dn_w dw195_0 3 rfl) rfl
theorem dX9_plainShares_6 : decode cX9_plainShares 6 = .ok (.aload_n 0, 1) := dop_42 (dn_w dw195_0 6 rfl)
theorem dX9_plainShares_7 : decode cX9_plainShares 7 = .ok (.getfield 307, 3) := dop_180 (dn_w dw195_0 7 rfl) rfl
theorem dX9_plainShares_10 : decode cX9_plainShares 10 = .ok (.aload_n 0, 1) := dop_42 (dn_w dw195_0 10 rfl)
theorem dX9_plainShares_11 : decode cX9_plainShares 11 = .ok (.getfield 289, 3) := dop_180 (dn_w dw195_0 11 rfl) rfl
theorem dX9_plainShares_14 : decode cX9_plainShares 14 = .ok (.if_icmp .ne 10, 3) := dop_160 (dn_w dw195_0 14 rfl) rfl
theorem dX9_plainShares_17 : decode cX9_plainShares 17 = .ok (.aload_n 0, 1) := dop_42 (dn_w dw195_1 1 rfl)
theorem dX9_plainShares_18 : decode cX9_plainShares 18 = .ok (.iconst 1, 1) := dop_4 (dn_w dw195_1 2 rfl)
theorem dX9_plainShares_19 : decode cX9_plainShares 19 = .ok (.putfield 310, 3) := dop_181 (dn_w dw195_1 3 rfl) rfl
theorem dX9_plainShares_22 : decode cX9_plainShares 22 = .ok (.iconst 0, 1) := dop_3 (dn_w dw195_1 6 rfl)
theorem dX9_plainShares_23 : decode cX9_plainShares 23 = .ok (.ireturn, 1) := dop_172 (dn_w dw195_1 7 rfl)
theorem dX9_plainShares_24 : decode cX9_plainShares 24 = .ok (.iload_n 1, 1) := dop_27 (dn_w dw195_1 8 rfl)
theorem dX9_plainShares_25 : decode cX9_plainShares 25 = .ok (.aload_n 0, 1) := dop_42 (dn_w dw195_1 9 rfl)
theorem dX9_plainShares_26 : decode cX9_plainShares 26 = .ok (.getfield 307, 3) := dop_180 (dn_w dw195_1 10 rfl) rfl
theorem dX9_plainShares_29 : decode cX9_plainShares 29 = .ok (.aload_n 0, 1) := dop_42 (dn_w dw195_1 13 rfl)
theorem dX9_plainShares_30 : decode cX9_plainShares 30 = .ok (.getfield 289, 3) := dop_180 (dn_w dw195_1 14 rfl) rfl
theorem dX9_plainShares_33 : decode cX9_plainShares 33 = .ok (.isub, 1) := dop_100 (dn_w dw195_2 1 rfl)
theorem dX9_plainShares_34 : decode cX9_plainShares 34 = .ok (.idiv, 1) := dop_108 (dn_w dw195_2 2 rfl)
theorem dX9_plainShares_35 : decode cX9_plainShares 35 = .ok (.ireturn, 1) := dop_172 (dn_w dw195_2 3 rfl)
noncomputable def dt196_4 : List Nat := 96 :: 172 :: 42 :: 27 :: 182 :: 1 :: 57 :: 172 :: []
noncomputable def dt196_3 : List Nat := 153 :: 0 :: 7 :: 3 :: 167 :: 0 :: 13 :: 28 :: 42 :: 42 :: 180 :: 1 :: 51 :: 182 :: 1 :: 45 :: dt196_4
noncomputable def dt196_2 : List Nat := 42 :: 16 :: 61 :: 182 :: 1 :: 30 :: 42 :: 27 :: 182 :: 1 :: 57 :: 61 :: 42 :: 180 :: 1 :: 54 :: dt196_3
noncomputable def dt196_1 : List Nat := 5 :: 96 :: 182 :: 1 :: 57 :: 4 :: 130 :: 172 :: 42 :: 180 :: 1 :: 39 :: 6 :: 160 :: 0 :: 37 :: dt196_2
noncomputable def dt196_0 : List Nat := 42 :: 180 :: 1 :: 39 :: 7 :: 160 :: 0 :: 19 :: 42 :: 16 :: 50 :: 182 :: 1 :: 30 :: 42 :: 27 :: dt196_1
theorem dw196_0 : dn cX9_sharesIt 0 = dt196_0 := by decide +kernel
theorem dw196_1 : dn cX9_sharesIt 16 = dt196_1 := dn_w dw196_0 16 rfl
theorem dw196_2 : dn cX9_sharesIt 32 = dt196_2 := dn_w dw196_1 16 rfl
theorem dw196_3 : dn cX9_sharesIt 48 = dt196_3 := dn_w dw196_2 16 rfl
theorem dw196_4 : dn cX9_sharesIt 64 = dt196_4 := dn_w dw196_3 16 rfl
theorem dX9_sharesIt_0 : decode cX9_sharesIt 0 = .ok (.aload_n 0, 1) := dop_42 (dn_w dw196_0 0 rfl)
theorem dX9_sharesIt_1 : decode cX9_sharesIt 1 = .ok (.getfield 295, 3) := dop_180 (dn_w dw196_0 1 rfl) rfl
theorem dX9_sharesIt_4 : decode cX9_sharesIt 4 = .ok (.iconst 4, 1) := dop_7 (dn_w dw196_0 4 rfl)
theorem dX9_sharesIt_5 : decode cX9_sharesIt 5 = .ok (.if_icmp .ne 19, 3) := dop_160 (dn_w dw196_0 5 rfl) rfl
theorem dX9_sharesIt_8 : decode cX9_sharesIt 8 = .ok (.aload_n 0, 1) := dop_42 (dn_w dw196_0 8 rfl)
theorem dX9_sharesIt_9 : decode cX9_sharesIt 9 = .ok (.bipush 50, 2) := dop_16 (dn_w dw196_0 9 rfl) rfl
theorem dX9_sharesIt_11 : decode cX9_sharesIt 11 = .ok (.invokevirtual 286, 3) := dop_182 (dn_w dw196_0 11 rfl) rfl
theorem dX9_sharesIt_14 : decode cX9_sharesIt 14 = .ok (.aload_n 0, 1) := dop_42 (dn_w dw196_0 14 rfl)
theorem dX9_sharesIt_15 : decode cX9_sharesIt 15 = .ok (.iload_n 1, 1) := dop_27 (dn_w dw196_0 15 rfl)
theorem dX9_sharesIt_16 : decode cX9_sharesIt 16 = .ok (.iconst 2, 1) := dop_5 (dn_w dw196_1 0 rfl)
theorem dX9_sharesIt_17 : decode cX9_sharesIt 17 = .ok (.iadd, 1) := dop_96 (dn_w dw196_1 1 rfl)
theorem dX9_sharesIt_18 : decode cX9_sharesIt 18 = .ok (.invokevirtual 313, 3) := dop_182 (dn_w dw196_1 2 rfl) rfl
theorem dX9_sharesIt_21 : decode cX9_sharesIt 21 = .ok (.iconst 1, 1) := dop_4 (dn_w dw196_1 5 rfl)
theorem dX9_sharesIt_22 : decode cX9_sharesIt 22 = .ok (.ixor, 1) := dop_130 (dn_w dw196_1 6 rfl)
theorem dX9_sharesIt_23 : decode cX9_sharesIt 23 = .ok (.ireturn, 1) := dop_172 (dn_w dw196_1 7 rfl)
theorem dX9_sharesIt_24 : decode cX9_sharesIt 24 = .ok (.aload_n 0, 1) := dop_42 (dn_w dw196_1 8 rfl)
theorem dX9_sharesIt_25 : decode cX9_sharesIt 25 = .ok (.getfield 295, 3) := dop_180 (dn_w dw196_1 9 rfl) rfl
theorem dX9_sharesIt_28 : decode cX9_sharesIt 28 = .ok (.iconst 3, 1) := dop_6 (dn_w dw196_1 12 rfl)
theorem dX9_sharesIt_29 : decode cX9_sharesIt 29 = .ok (.if_icmp .ne 37, 3) := dop_160 (dn_w dw196_1 13 rfl) rfl
theorem dX9_sharesIt_32 : decode cX9_sharesIt 32 = .ok (.aload_n 0, 1) := dop_42 (dn_w dw196_2 0 rfl)
theorem dX9_sharesIt_33 : decode cX9_sharesIt 33 = .ok (.bipush 61, 2) := dop_16 (dn_w dw196_2 1 rfl) rfl
theorem dX9_sharesIt_35 : decode cX9_sharesIt 35 = .ok (.invokevirtual 286, 3) := dop_182 (dn_w dw196_2 3 rfl) rfl
theorem dX9_sharesIt_38 : decode cX9_sharesIt 38 = .ok (.aload_n 0, 1) := dop_42 (dn_w dw196_2 6 rfl)
theorem dX9_sharesIt_39 : decode cX9_sharesIt 39 = .ok (.iload_n 1, 1) := dop_27 (dn_w dw196_2 7 rfl)
theorem dX9_sharesIt_40 : decode cX9_sharesIt 40 = .ok (.invokevirtual 313, 3) := dop_182 (dn_w dw196_2 8 rfl) rfl
theorem dX9_sharesIt_43 : decode cX9_sharesIt 43 = .ok (.istore_n 2, 1) := dop_61 (dn_w dw196_2 11 rfl)
theorem dX9_sharesIt_44 : decode cX9_sharesIt 44 = .ok (.aload_n 0, 1) := dop_42 (dn_w dw196_2 12 rfl)
theorem dX9_sharesIt_45 : decode cX9_sharesIt 45 = .ok (.getfield 310, 3) := dop_180 (dn_w dw196_2 13 rfl) rfl
theorem dX9_sharesIt_48 : decode cX9_sharesIt 48 = .ok (.ifCond .eq 7, 3) := dop_153 (dn_w dw196_3 0 rfl) rfl
theorem dX9_sharesIt_51 : decode cX9_sharesIt 51 = .ok (.iconst 0, 1) := dop_3 (dn_w dw196_3 3 rfl)
theorem dX9_sharesIt_52 : decode cX9_sharesIt 52 = .ok (.goto 13, 3) := dop_167 (dn_w dw196_3 4 rfl) rfl
theorem dX9_sharesIt_55 : decode cX9_sharesIt 55 = .ok (.iload_n 2, 1) := dop_28 (dn_w dw196_3 7 rfl)
theorem dX9_sharesIt_56 : decode cX9_sharesIt 56 = .ok (.aload_n 0, 1) := dop_42 (dn_w dw196_3 8 rfl)
theorem dX9_sharesIt_57 : decode cX9_sharesIt 57 = .ok (.aload_n 0, 1) := dop_42 (dn_w dw196_3 9 rfl)
theorem dX9_sharesIt_58 : decode cX9_sharesIt 58 = .ok (.getfield 307, 3) := dop_180 (dn_w dw196_3 10 rfl) rfl
theorem dX9_sharesIt_61 : decode cX9_sharesIt 61 = .ok (.invokevirtual 301, 3) := dop_182 (dn_w dw196_3 13 rfl) rfl
theorem dX9_sharesIt_64 : decode cX9_sharesIt 64 = .ok (.iadd, 1) := dop_96 (dn_w dw196_4 0 rfl)
theorem dX9_sharesIt_65 : decode cX9_sharesIt 65 = .ok (.ireturn, 1) := dop_172 (dn_w dw196_4 1 rfl)
theorem dX9_sharesIt_66 : decode cX9_sharesIt 66 = .ok (.aload_n 0, 1) := dop_42 (dn_w dw196_4 2 rfl)
theorem dX9_sharesIt_67 : decode cX9_sharesIt 67 = .ok (.iload_n 1, 1) := dop_27 (dn_w dw196_4 3 rfl)
theorem dX9_sharesIt_68 : decode cX9_sharesIt 68 = .ok (.invokevirtual 313, 3) := dop_182 (dn_w dw196_4 4 rfl) rfl
theorem dX9_sharesIt_71 : decode cX9_sharesIt 71 = .ok (.ireturn, 1) := dop_172 (dn_w dw196_4 7 rfl)
noncomputable def dt197_1 : List Nat := 172 :: []
noncomputable def dt197_0 : List Nat := 42 :: 16 :: 13 :: 182 :: 1 :: 30 :: 42 :: 27 :: 182 :: 1 :: 60 :: 42 :: 180 :: 1 :: 51 :: 130 :: dt197_1
theorem dw197_0 : dn cX9_plainTells 0 = dt197_0 := by decide +kernel
theorem dw197_1 : dn cX9_plainTells 16 = dt197_1 := dn_w dw197_0 16 rfl
theorem dX9_plainTells_0 : decode cX9_plainTells 0 = .ok (.aload_n 0, 1) := dop_42 (dn_w dw197_0 0 rfl)
theorem dX9_plainTells_1 : decode cX9_plainTells 1 = .ok (.bipush 13, 2) := dop_16 (dn_w dw197_0 1 rfl) rfl
theorem dX9_plainTells_3 : decode cX9_plainTells 3 = .ok (.invokevirtual 286, 3) := dop_182 (dn_w dw197_0 3 rfl) rfl
theorem dX9_plainTells_6 : decode cX9_plainTells 6 = .ok (.aload_n 0, 1) := dop_42 (dn_w dw197_0 6 rfl)
theorem dX9_plainTells_7 : decode cX9_plainTells 7 = .ok (.iload_n 1, 1) := dop_27 (dn_w dw197_0 7 rfl)
theorem dX9_plainTells_8 : decode cX9_plainTells 8 = .ok (.invokevirtual 316, 3) := dop_182 (dn_w dw197_0 8 rfl) rfl
theorem dX9_plainTells_11 : decode cX9_plainTells 11 = .ok (.aload_n 0, 1) := dop_42 (dn_w dw197_0 11 rfl)
theorem dX9_plainTells_12 : decode cX9_plainTells 12 = .ok (.getfield 307, 3) := dop_180 (dn_w dw197_0 12 rfl) rfl
theorem dX9_plainTells_15 : decode cX9_plainTells 15 = .ok (.ixor, 1) := dop_130 (dn_w dw197_0 15 rfl)
theorem dX9_plainTells_16 : decode cX9_plainTells 16 = .ok (.ireturn, 1) := dop_172 (dn_w dw197_1 0 rfl)
noncomputable def dt198_4 : List Nat := 1 :: 63 :: 172 :: []
noncomputable def dt198_3 : List Nat := 16 :: 60 :: 182 :: 1 :: 30 :: 42 :: 27 :: 182 :: 1 :: 63 :: 5 :: 104 :: 172 :: 42 :: 27 :: 182 :: dt198_4
noncomputable def dt198_2 : List Nat := 1 :: 33 :: 182 :: 1 :: 66 :: 96 :: 172 :: 42 :: 180 :: 1 :: 39 :: 6 :: 160 :: 0 :: 17 :: 42 :: dt198_3
noncomputable def dt198_1 : List Nat := 42 :: 16 :: 31 :: 182 :: 1 :: 30 :: 42 :: 27 :: 182 :: 1 :: 63 :: 61 :: 28 :: 42 :: 42 :: 180 :: dt198_2
noncomputable def dt198_0 : List Nat := 42 :: 180 :: 1 :: 39 :: 5 :: 159 :: 0 :: 11 :: 42 :: 180 :: 1 :: 39 :: 8 :: 160 :: 0 :: 26 :: dt198_1
theorem dw198_0 : dn cX9_tellsIt 0 = dt198_0 := by decide +kernel
theorem dw198_1 : dn cX9_tellsIt 16 = dt198_1 := dn_w dw198_0 16 rfl
theorem dw198_2 : dn cX9_tellsIt 32 = dt198_2 := dn_w dw198_1 16 rfl
theorem dw198_3 : dn cX9_tellsIt 48 = dt198_3 := dn_w dw198_2 16 rfl
theorem dw198_4 : dn cX9_tellsIt 64 = dt198_4 := dn_w dw198_3 16 rfl
theorem dX9_tellsIt_0 : decode cX9_tellsIt 0 = .ok (.aload_n 0, 1) := dop_42 (dn_w dw198_0 0 rfl)
theorem dX9_tellsIt_1 : decode cX9_tellsIt 1 = .ok (.getfield 295, 3) := dop_180 (dn_w dw198_0 1 rfl) rfl
theorem dX9_tellsIt_4 : decode cX9_tellsIt 4 = .ok (.iconst 2, 1) := dop_5 (dn_w dw198_0 4 rfl)
theorem dX9_tellsIt_5 : decode cX9_tellsIt 5 = .ok (.if_icmp .eq 11, 3) := dop_159 (dn_w dw198_0 5 rfl) rfl
theorem dX9_tellsIt_8 : decode cX9_tellsIt 8 = .ok (.aload_n 0, 1) := dop_42 (dn_w dw198_0 8 rfl)
theorem dX9_tellsIt_9 : decode cX9_tellsIt 9 = .ok (.getfield 295, 3) := dop_180 (dn_w dw198_0 9 rfl) rfl
theorem dX9_tellsIt_12 : decode cX9_tellsIt 12 = .ok (.iconst 5, 1) := dop_8 (dn_w dw198_0 12 rfl)
theorem dX9_tellsIt_13 : decode cX9_tellsIt 13 = .ok (.if_icmp .ne 26, 3) := dop_160 (dn_w dw198_0 13 rfl) rfl
theorem dX9_tellsIt_16 : decode cX9_tellsIt 16 = .ok (.aload_n 0, 1) := dop_42 (dn_w dw198_1 0 rfl)
theorem dX9_tellsIt_17 : decode cX9_tellsIt 17 = .ok (.bipush 31, 2) := dop_16 (dn_w dw198_1 1 rfl) rfl
theorem dX9_tellsIt_19 : decode cX9_tellsIt 19 = .ok (.invokevirtual 286, 3) := dop_182 (dn_w dw198_1 3 rfl) rfl
theorem dX9_tellsIt_22 : decode cX9_tellsIt 22 = .ok (.aload_n 0, 1) := dop_42 (dn_w dw198_1 6 rfl)
theorem dX9_tellsIt_23 : decode cX9_tellsIt 23 = .ok (.iload_n 1, 1) := dop_27 (dn_w dw198_1 7 rfl)
theorem dX9_tellsIt_24 : decode cX9_tellsIt 24 = .ok (.invokevirtual 319, 3) := dop_182 (dn_w dw198_1 8 rfl) rfl
theorem dX9_tellsIt_27 : decode cX9_tellsIt 27 = .ok (.istore_n 2, 1) := dop_61 (dn_w dw198_1 11 rfl)
theorem dX9_tellsIt_28 : decode cX9_tellsIt 28 = .ok (.iload_n 2, 1) := dop_28 (dn_w dw198_1 12 rfl)
theorem dX9_tellsIt_29 : decode cX9_tellsIt 29 = .ok (.aload_n 0, 1) := dop_42 (dn_w dw198_1 13 rfl)
theorem dX9_tellsIt_30 : decode cX9_tellsIt 30 = .ok (.aload_n 0, 1) := dop_42 (dn_w dw198_1 14 rfl)
theorem dX9_tellsIt_31 : decode cX9_tellsIt 31 = .ok (.getfield 289, 3) := dop_180 (dn_w dw198_1 15 rfl) rfl
theorem dX9_tellsIt_34 : decode cX9_tellsIt 34 = .ok (.invokevirtual 322, 3) := dop_182 (dn_w dw198_2 2 rfl) rfl
theorem dX9_tellsIt_37 : decode cX9_tellsIt 37 = .ok (.iadd, 1) := dop_96 (dn_w dw198_2 5 rfl)
theorem dX9_tellsIt_38 : decode cX9_tellsIt 38 = .ok (.ireturn, 1) := dop_172 (dn_w dw198_2 6 rfl)
theorem dX9_tellsIt_39 : decode cX9_tellsIt 39 = .ok (.aload_n 0, 1) := dop_42 (dn_w dw198_2 7 rfl)
theorem dX9_tellsIt_40 : decode cX9_tellsIt 40 = .ok (.getfield 295, 3) := dop_180 (dn_w dw198_2 8 rfl) rfl
theorem dX9_tellsIt_43 : decode cX9_tellsIt 43 = .ok (.iconst 3, 1) := dop_6 (dn_w dw198_2 11 rfl)
theorem dX9_tellsIt_44 : decode cX9_tellsIt 44 = .ok (.if_icmp .ne 17, 3) := dop_160 (dn_w dw198_2 12 rfl) rfl
theorem dX9_tellsIt_47 : decode cX9_tellsIt 47 = .ok (.aload_n 0, 1) := dop_42 (dn_w dw198_2 15 rfl)
theorem dX9_tellsIt_48 : decode cX9_tellsIt 48 = .ok (.bipush 60, 2) := dop_16 (dn_w dw198_3 0 rfl) rfl
theorem dX9_tellsIt_50 : decode cX9_tellsIt 50 = .ok (.invokevirtual 286, 3) := dop_182 (dn_w dw198_3 2 rfl) rfl
theorem dX9_tellsIt_53 : decode cX9_tellsIt 53 = .ok (.aload_n 0, 1) := dop_42 (dn_w dw198_3 5 rfl)
theorem dX9_tellsIt_54 : decode cX9_tellsIt 54 = .ok (.iload_n 1, 1) := dop_27 (dn_w dw198_3 6 rfl)
theorem dX9_tellsIt_55 : decode cX9_tellsIt 55 = .ok (.invokevirtual 319, 3) := dop_182 (dn_w dw198_3 7 rfl) rfl
theorem dX9_tellsIt_58 : decode cX9_tellsIt 58 = .ok (.iconst 2, 1) := dop_5 (dn_w dw198_3 10 rfl)
theorem dX9_tellsIt_59 : decode cX9_tellsIt 59 = .ok (.imul, 1) := dop_104 (dn_w dw198_3 11 rfl)
theorem dX9_tellsIt_60 : decode cX9_tellsIt 60 = .ok (.ireturn, 1) := dop_172 (dn_w dw198_3 12 rfl)
theorem dX9_tellsIt_61 : decode cX9_tellsIt 61 = .ok (.aload_n 0, 1) := dop_42 (dn_w dw198_3 13 rfl)
theorem dX9_tellsIt_62 : decode cX9_tellsIt 62 = .ok (.iload_n 1, 1) := dop_27 (dn_w dw198_3 14 rfl)
theorem dX9_tellsIt_63 : decode cX9_tellsIt 63 = .ok (.invokevirtual 319, 3) := dop_182 (dn_w dw198_3 15 rfl) rfl
theorem dX9_tellsIt_66 : decode cX9_tellsIt 66 = .ok (.ireturn, 1) := dop_172 (dn_w dw198_4 2 rfl)
noncomputable def dt199_8 : List Nat := 0 :: 8 :: 16 :: 241 :: 167 :: 0 :: 5 :: 21 :: 5 :: 172 :: []
noncomputable def dt199_7 : List Nat := 66 :: 167 :: 0 :: 8 :: 42 :: 29 :: 182 :: 1 :: 69 :: 54 :: 5 :: 42 :: 180 :: 1 :: 54 :: 153 :: dt199_8
noncomputable def dt199_6 : List Nat := 29 :: 182 :: 1 :: 60 :: 167 :: 0 :: 21 :: 28 :: 5 :: 160 :: 0 :: 11 :: 42 :: 29 :: 182 :: 1 :: dt199_7
noncomputable def dt199_5 : List Nat := 0 :: 11 :: 42 :: 29 :: 182 :: 1 :: 45 :: 167 :: 0 :: 34 :: 28 :: 4 :: 160 :: 0 :: 11 :: 42 :: dt199_6
noncomputable def dt199_4 : List Nat := 1 :: 33 :: 4 :: 182 :: 0 :: 209 :: 181 :: 1 :: 51 :: 42 :: 3 :: 181 :: 1 :: 54 :: 28 :: 154 :: dt199_5
noncomputable def dt199_3 : List Nat := 1 :: 39 :: 42 :: 42 :: 180 :: 0 :: 72 :: 27 :: 46 :: 181 :: 1 :: 33 :: 42 :: 42 :: 42 :: 180 :: dt199_4
noncomputable def dt199_2 : List Nat := 21 :: 4 :: 3 :: 8 :: 184 :: 0 :: 87 :: 154 :: 0 :: 5 :: 3 :: 172 :: 42 :: 21 :: 4 :: 181 :: dt199_3
noncomputable def dt199_1 : List Nat := 21 :: 167 :: 0 :: 4 :: 2 :: 54 :: 4 :: 28 :: 3 :: 6 :: 184 :: 0 :: 87 :: 153 :: 0 :: 13 :: dt199_2
noncomputable def dt199_0 : List Nat := 42 :: 3 :: 181 :: 1 :: 27 :: 27 :: 184 :: 1 :: 10 :: 153 :: 0 :: 11 :: 42 :: 27 :: 182 :: 1 :: dt199_1
theorem dw199_0 : dn cX9_act 0 = dt199_0 := by decide +kernel
theorem dw199_1 : dn cX9_act 16 = dt199_1 := dn_w dw199_0 16 rfl
theorem dw199_2 : dn cX9_act 32 = dt199_2 := dn_w dw199_1 16 rfl
theorem dw199_3 : dn cX9_act 48 = dt199_3 := dn_w dw199_2 16 rfl
theorem dw199_4 : dn cX9_act 64 = dt199_4 := dn_w dw199_3 16 rfl
theorem dw199_5 : dn cX9_act 80 = dt199_5 := dn_w dw199_4 16 rfl
theorem dw199_6 : dn cX9_act 96 = dt199_6 := dn_w dw199_5 16 rfl
theorem dw199_7 : dn cX9_act 112 = dt199_7 := dn_w dw199_6 16 rfl
theorem dw199_8 : dn cX9_act 128 = dt199_8 := dn_w dw199_7 16 rfl
theorem dX9_act_0 : decode cX9_act 0 = .ok (.aload_n 0, 1) := dop_42 (dn_w dw199_0 0 rfl)
theorem dX9_act_1 : decode cX9_act 1 = .ok (.iconst 0, 1) := dop_3 (dn_w dw199_0 1 rfl)
theorem dX9_act_2 : decode cX9_act 2 = .ok (.putfield 283, 3) := dop_181 (dn_w dw199_0 2 rfl) rfl
theorem dX9_act_5 : decode cX9_act 5 = .ok (.iload_n 1, 1) := dop_27 (dn_w dw199_0 5 rfl)
theorem dX9_act_6 : decode cX9_act 6 = .ok (.invokestatic 266, 3) := dop_184 (dn_w dw199_0 6 rfl) rfl
theorem dX9_act_9 : decode cX9_act 9 = .ok (.ifCond .eq 11, 3) := dop_153 (dn_w dw199_0 9 rfl) rfl
theorem dX9_act_12 : decode cX9_act 12 = .ok (.aload_n 0, 1) := dop_42 (dn_w dw199_0 12 rfl)
theorem dX9_act_13 : decode cX9_act 13 = .ok (.iload_n 1, 1) := dop_27 (dn_w dw199_0 13 rfl)
theorem dX9_act_14 : decode cX9_act 14 = .ok (.invokevirtual 277, 3) := dop_182 (dn_w dw199_0 14 rfl) rfl
theorem dX9_act_17 : decode cX9_act 17 = .ok (.goto 4, 3) := dop_167 (dn_w dw199_1 1 rfl) rfl
theorem dX9_act_20 : decode cX9_act 20 = .ok (.iconst (-1), 1) := dop_2 (dn_w dw199_1 4 rfl)
theorem dX9_act_21 : decode cX9_act 21 = .ok (.istore 4, 2) := dop_54 (dn_w dw199_1 5 rfl)
theorem dX9_act_23 : decode cX9_act 23 = .ok (.iload_n 2, 1) := dop_28 (dn_w dw199_1 7 rfl)
theorem dX9_act_24 : decode cX9_act 24 = .ok (.iconst 0, 1) := dop_3 (dn_w dw199_1 8 rfl)
theorem dX9_act_25 : decode cX9_act 25 = .ok (.iconst 3, 1) := dop_6 (dn_w dw199_1 9 rfl)
theorem dX9_act_26 : decode cX9_act 26 = .ok (.invokestatic 87, 3) := dop_184 (dn_w dw199_1 10 rfl) rfl
theorem dX9_act_29 : decode cX9_act 29 = .ok (.ifCond .eq 13, 3) := dop_153 (dn_w dw199_1 13 rfl) rfl
theorem dX9_act_32 : decode cX9_act 32 = .ok (.iload 4, 2) := dop_21 (dn_w dw199_2 0 rfl)
theorem dX9_act_34 : decode cX9_act 34 = .ok (.iconst 0, 1) := dop_3 (dn_w dw199_2 2 rfl)
theorem dX9_act_35 : decode cX9_act 35 = .ok (.iconst 5, 1) := dop_8 (dn_w dw199_2 3 rfl)
theorem dX9_act_36 : decode cX9_act 36 = .ok (.invokestatic 87, 3) := dop_184 (dn_w dw199_2 4 rfl) rfl
theorem dX9_act_39 : decode cX9_act 39 = .ok (.ifCond .ne 5, 3) := dop_154 (dn_w dw199_2 7 rfl) rfl
theorem dX9_act_42 : decode cX9_act 42 = .ok (.iconst 0, 1) := dop_3 (dn_w dw199_2 10 rfl)
theorem dX9_act_43 : decode cX9_act 43 = .ok (.ireturn, 1) := dop_172 (dn_w dw199_2 11 rfl)
theorem dX9_act_44 : decode cX9_act 44 = .ok (.aload_n 0, 1) := dop_42 (dn_w dw199_2 12 rfl)
theorem dX9_act_45 : decode cX9_act 45 = .ok (.iload 4, 2) := dop_21 (dn_w dw199_2 13 rfl)
theorem dX9_act_47 : decode cX9_act 47 = .ok (.putfield 295, 3) := dop_181 (dn_w dw199_2 15 rfl) rfl
theorem dX9_act_50 : decode cX9_act 50 = .ok (.aload_n 0, 1) := dop_42 (dn_w dw199_3 2 rfl)
theorem dX9_act_51 : decode cX9_act 51 = .ok (.aload_n 0, 1) := dop_42 (dn_w dw199_3 3 rfl)
theorem dX9_act_52 : decode cX9_act 52 = .ok (.getfield 72, 3) := dop_180 (dn_w dw199_3 4 rfl) rfl
theorem dX9_act_55 : decode cX9_act 55 = .ok (.iload_n 1, 1) := dop_27 (dn_w dw199_3 7 rfl)
theorem dX9_act_56 : decode cX9_act 56 = .ok (.iaload, 1) := dop_46 (dn_w dw199_3 8 rfl)
theorem dX9_act_57 : decode cX9_act 57 = .ok (.putfield 289, 3) := dop_181 (dn_w dw199_3 9 rfl) rfl
theorem dX9_act_60 : decode cX9_act 60 = .ok (.aload_n 0, 1) := dop_42 (dn_w dw199_3 12 rfl)
theorem dX9_act_61 : decode cX9_act 61 = .ok (.aload_n 0, 1) := dop_42 (dn_w dw199_3 13 rfl)
theorem dX9_act_62 : decode cX9_act 62 = .ok (.aload_n 0, 1) := dop_42 (dn_w dw199_3 14 rfl)
theorem dX9_act_63 : decode cX9_act 63 = .ok (.getfield 289, 3) := dop_180 (dn_w dw199_3 15 rfl) rfl
theorem dX9_act_66 : decode cX9_act 66 = .ok (.iconst 1, 1) := dop_4 (dn_w dw199_4 2 rfl)
theorem dX9_act_67 : decode cX9_act 67 = .ok (.invokevirtual 209, 3) := dop_182 (dn_w dw199_4 3 rfl) rfl
theorem dX9_act_70 : decode cX9_act 70 = .ok (.putfield 307, 3) := dop_181 (dn_w dw199_4 6 rfl) rfl
theorem dX9_act_73 : decode cX9_act 73 = .ok (.aload_n 0, 1) := dop_42 (dn_w dw199_4 9 rfl)
theorem dX9_act_74 : decode cX9_act 74 = .ok (.iconst 0, 1) := dop_3 (dn_w dw199_4 10 rfl)
theorem dX9_act_75 : decode cX9_act 75 = .ok (.putfield 310, 3) := dop_181 (dn_w dw199_4 11 rfl) rfl
theorem dX9_act_78 : decode cX9_act 78 = .ok (.iload_n 2, 1) := dop_28 (dn_w dw199_4 14 rfl)
theorem dX9_act_79 : decode cX9_act 79 = .ok (.ifCond .ne 11, 3) := dop_154 (dn_w dw199_4 15 rfl) rfl
theorem dX9_act_82 : decode cX9_act 82 = .ok (.aload_n 0, 1) := dop_42 (dn_w dw199_5 2 rfl)
theorem dX9_act_83 : decode cX9_act 83 = .ok (.iload_n 3, 1) := dop_29 (dn_w dw199_5 3 rfl)
theorem dX9_act_84 : decode cX9_act 84 = .ok (.invokevirtual 301, 3) := dop_182 (dn_w dw199_5 4 rfl) rfl
theorem dX9_act_87 : decode cX9_act 87 = .ok (.goto 34, 3) := dop_167 (dn_w dw199_5 7 rfl) rfl
theorem dX9_act_90 : decode cX9_act 90 = .ok (.iload_n 2, 1) := dop_28 (dn_w dw199_5 10 rfl)
theorem dX9_act_91 : decode cX9_act 91 = .ok (.iconst 1, 1) := dop_4 (dn_w dw199_5 11 rfl)
theorem dX9_act_92 : decode cX9_act 92 = .ok (.if_icmp .ne 11, 3) := dop_160 (dn_w dw199_5 12 rfl) rfl
theorem dX9_act_95 : decode cX9_act 95 = .ok (.aload_n 0, 1) := dop_42 (dn_w dw199_5 15 rfl)
theorem dX9_act_96 : decode cX9_act 96 = .ok (.iload_n 3, 1) := dop_29 (dn_w dw199_6 0 rfl)
theorem dX9_act_97 : decode cX9_act 97 = .ok (.invokevirtual 316, 3) := dop_182 (dn_w dw199_6 1 rfl) rfl
theorem dX9_act_100 : decode cX9_act 100 = .ok (.goto 21, 3) := dop_167 (dn_w dw199_6 4 rfl) rfl
theorem dX9_act_103 : decode cX9_act 103 = .ok (.iload_n 2, 1) := dop_28 (dn_w dw199_6 7 rfl)
theorem dX9_act_104 : decode cX9_act 104 = .ok (.iconst 2, 1) := dop_5 (dn_w dw199_6 8 rfl)
theorem dX9_act_105 : decode cX9_act 105 = .ok (.if_icmp .ne 11, 3) := dop_160 (dn_w dw199_6 9 rfl) rfl
theorem dX9_act_108 : decode cX9_act 108 = .ok (.aload_n 0, 1) := dop_42 (dn_w dw199_6 12 rfl)
theorem dX9_act_109 : decode cX9_act 109 = .ok (.iload_n 3, 1) := dop_29 (dn_w dw199_6 13 rfl)
theorem dX9_act_110 : decode cX9_act 110 = .ok (.invokevirtual 322, 3) := dop_182 (dn_w dw199_6 14 rfl) rfl
theorem dX9_act_113 : decode cX9_act 113 = .ok (.goto 8, 3) := dop_167 (dn_w dw199_7 1 rfl) rfl
theorem dX9_act_116 : decode cX9_act 116 = .ok (.aload_n 0, 1) := dop_42 (dn_w dw199_7 4 rfl)
theorem dX9_act_117 : decode cX9_act 117 = .ok (.iload_n 3, 1) := dop_29 (dn_w dw199_7 5 rfl)
theorem dX9_act_118 : decode cX9_act 118 = .ok (.invokevirtual 325, 3) := dop_182 (dn_w dw199_7 6 rfl) rfl
theorem dX9_act_121 : decode cX9_act 121 = .ok (.istore 5, 2) := dop_54 (dn_w dw199_7 9 rfl)
theorem dX9_act_123 : decode cX9_act 123 = .ok (.aload_n 0, 1) := dop_42 (dn_w dw199_7 11 rfl)
theorem dX9_act_124 : decode cX9_act 124 = .ok (.getfield 310, 3) := dop_180 (dn_w dw199_7 12 rfl) rfl
theorem dX9_act_127 : decode cX9_act 127 = .ok (.ifCond .eq 8, 3) := dop_153 (dn_w dw199_7 15 rfl) rfl
theorem dX9_act_130 : decode cX9_act 130 = .ok (.bipush (-15), 2) := dop_16 (dn_w dw199_8 2 rfl) rfl
theorem dX9_act_132 : decode cX9_act 132 = .ok (.goto 5, 3) := dop_167 (dn_w dw199_8 4 rfl) rfl
theorem dX9_act_135 : decode cX9_act 135 = .ok (.iload 5, 2) := dop_21 (dn_w dw199_8 7 rfl)
theorem dX9_act_137 : decode cX9_act 137 = .ok (.ireturn, 1) := dop_172 (dn_w dw199_8 9 rfl)
noncomputable def dt200_1 : List Nat := 0 :: 78 :: 27 :: 46 :: 167 :: 0 :: 5 :: 16 :: 253 :: 172 :: []
noncomputable def dt200_0 : List Nat := 27 :: 3 :: 42 :: 180 :: 1 :: 27 :: 4 :: 100 :: 184 :: 0 :: 87 :: 153 :: 0 :: 12 :: 42 :: 180 :: dt200_1
theorem dw200_0 : dn cX9_trace 0 = dt200_0 := by decide +kernel
theorem dw200_1 : dn cX9_trace 16 = dt200_1 := dn_w dw200_0 16 rfl
theorem dX9_trace_0 : decode cX9_trace 0 = .ok (.iload_n 1, 1) := dop_27 (dn_w dw200_0 0 rfl)
theorem dX9_trace_1 : decode cX9_trace 1 = .ok (.iconst 0, 1) := dop_3 (dn_w dw200_0 1 rfl)
theorem dX9_trace_2 : decode cX9_trace 2 = .ok (.aload_n 0, 1) := dop_42 (dn_w dw200_0 2 rfl)
theorem dX9_trace_3 : decode cX9_trace 3 = .ok (.getfield 283, 3) := dop_180 (dn_w dw200_0 3 rfl) rfl
theorem dX9_trace_6 : decode cX9_trace 6 = .ok (.iconst 1, 1) := dop_4 (dn_w dw200_0 6 rfl)
theorem dX9_trace_7 : decode cX9_trace 7 = .ok (.isub, 1) := dop_100 (dn_w dw200_0 7 rfl)
theorem dX9_trace_8 : decode cX9_trace 8 = .ok (.invokestatic 87, 3) := dop_184 (dn_w dw200_0 8 rfl) rfl
theorem dX9_trace_11 : decode cX9_trace 11 = .ok (.ifCond .eq 12, 3) := dop_153 (dn_w dw200_0 11 rfl) rfl
theorem dX9_trace_14 : decode cX9_trace 14 = .ok (.aload_n 0, 1) := dop_42 (dn_w dw200_0 14 rfl)
theorem dX9_trace_15 : decode cX9_trace 15 = .ok (.getfield 78, 3) := dop_180 (dn_w dw200_0 15 rfl) rfl
theorem dX9_trace_18 : decode cX9_trace 18 = .ok (.iload_n 1, 1) := dop_27 (dn_w dw200_1 2 rfl)
theorem dX9_trace_19 : decode cX9_trace 19 = .ok (.iaload, 1) := dop_46 (dn_w dw200_1 3 rfl)
theorem dX9_trace_20 : decode cX9_trace 20 = .ok (.goto 5, 3) := dop_167 (dn_w dw200_1 4 rfl) rfl
theorem dX9_trace_23 : decode cX9_trace 23 = .ok (.bipush (-3), 2) := dop_16 (dn_w dw200_1 7 rfl) rfl
theorem dX9_trace_25 : decode cX9_trace 25 = .ok (.ireturn, 1) := dop_172 (dn_w dw200_1 9 rfl)
noncomputable def dt201_5 : List Nat := 180 :: 1 :: 27 :: 172 :: 2 :: 172 :: []
noncomputable def dt201_4 : List Nat := 167 :: 255 :: 235 :: 28 :: 172 :: 42 :: 180 :: 0 :: 199 :: 172 :: 42 :: 180 :: 0 :: 94 :: 172 :: 42 :: dt201_5
noncomputable def dt201_3 : List Nat := 21 :: 28 :: 42 :: 180 :: 0 :: 19 :: 29 :: 46 :: 184 :: 0 :: 244 :: 96 :: 61 :: 132 :: 3 :: 1 :: dt201_4
noncomputable def dt201_2 : List Nat := 0 :: 0 :: 0 :: 76 :: 42 :: 180 :: 0 :: 91 :: 172 :: 3 :: 62 :: 29 :: 16 :: 40 :: 162 :: 0 :: dt201_3
noncomputable def dt201_1 : List Nat := 0 :: 0 :: 0 :: 33 :: 0 :: 0 :: 0 :: 38 :: 0 :: 0 :: 0 :: 66 :: 0 :: 0 :: 0 :: 71 :: dt201_2
noncomputable def dt201_0 : List Nat := 3 :: 61 :: 27 :: 170 :: 0 :: 0 :: 0 :: 81 :: 0 :: 0 :: 0 :: 0 :: 0 :: 0 :: 0 :: 4 :: dt201_1
theorem dw201_0 : dn cX9_many 0 = dt201_0 := by decide +kernel
theorem dw201_1 : dn cX9_many 16 = dt201_1 := dn_w dw201_0 16 rfl
theorem dw201_2 : dn cX9_many 32 = dt201_2 := dn_w dw201_1 16 rfl
theorem dw201_3 : dn cX9_many 48 = dt201_3 := dn_w dw201_2 16 rfl
theorem dw201_4 : dn cX9_many 64 = dt201_4 := dn_w dw201_3 16 rfl
theorem dw201_5 : dn cX9_many 80 = dt201_5 := dn_w dw201_4 16 rfl
theorem dX9_many_0 : decode cX9_many 0 = .ok (.iconst 0, 1) := dop_3 (dn_w dw201_0 0 rfl)
theorem dX9_many_1 : decode cX9_many 1 = .ok (.istore_n 2, 1) := dop_61 (dn_w dw201_0 1 rfl)
theorem dX9_many_2 : decode cX9_many 2 = .ok (.iload_n 1, 1) := dop_27 (dn_w dw201_0 2 rfl)
theorem dX9_many_3 : decode cX9_many 3 = .ok (.tableswitch 81 0 4 #[33, 38, 66, 71, 76], 33) := by decide +kernel
theorem dX9_many_36 : decode cX9_many 36 = .ok (.aload_n 0, 1) := dop_42 (dn_w dw201_2 4 rfl)
theorem dX9_many_37 : decode cX9_many 37 = .ok (.getfield 91, 3) := dop_180 (dn_w dw201_2 5 rfl) rfl
theorem dX9_many_40 : decode cX9_many 40 = .ok (.ireturn, 1) := dop_172 (dn_w dw201_2 8 rfl)
theorem dX9_many_41 : decode cX9_many 41 = .ok (.iconst 0, 1) := dop_3 (dn_w dw201_2 9 rfl)
theorem dX9_many_42 : decode cX9_many 42 = .ok (.istore_n 3, 1) := dop_62 (dn_w dw201_2 10 rfl)
theorem dX9_many_43 : decode cX9_many 43 = .ok (.iload_n 3, 1) := dop_29 (dn_w dw201_2 11 rfl)
theorem dX9_many_44 : decode cX9_many 44 = .ok (.bipush 40, 2) := dop_16 (dn_w dw201_2 12 rfl) rfl
theorem dX9_many_46 : decode cX9_many 46 = .ok (.if_icmp .ge 21, 3) := dop_162 (dn_w dw201_2 14 rfl) rfl
theorem dX9_many_49 : decode cX9_many 49 = .ok (.iload_n 2, 1) := dop_28 (dn_w dw201_3 1 rfl)
theorem dX9_many_50 : decode cX9_many 50 = .ok (.aload_n 0, 1) := dop_42 (dn_w dw201_3 2 rfl)
theorem dX9_many_51 : decode cX9_many 51 = .ok (.getfield 19, 3) := dop_180 (dn_w dw201_3 3 rfl) rfl
theorem dX9_many_54 : decode cX9_many 54 = .ok (.iload_n 3, 1) := dop_29 (dn_w dw201_3 6 rfl)
theorem dX9_many_55 : decode cX9_many 55 = .ok (.iaload, 1) := dop_46 (dn_w dw201_3 7 rfl)
theorem dX9_many_56 : decode cX9_many 56 = .ok (.invokestatic 244, 3) := dop_184 (dn_w dw201_3 8 rfl) rfl
theorem dX9_many_59 : decode cX9_many 59 = .ok (.iadd, 1) := dop_96 (dn_w dw201_3 11 rfl)
theorem dX9_many_60 : decode cX9_many 60 = .ok (.istore_n 2, 1) := dop_61 (dn_w dw201_3 12 rfl)
theorem dX9_many_61 : decode cX9_many 61 = .ok (.iinc 3 1, 3) := dop_132 (dn_w dw201_3 13 rfl) rfl
theorem dX9_many_64 : decode cX9_many 64 = .ok (.goto (-21), 3) := dop_167 (dn_w dw201_4 0 rfl) rfl
theorem dX9_many_67 : decode cX9_many 67 = .ok (.iload_n 2, 1) := dop_28 (dn_w dw201_4 3 rfl)
theorem dX9_many_68 : decode cX9_many 68 = .ok (.ireturn, 1) := dop_172 (dn_w dw201_4 4 rfl)
theorem dX9_many_69 : decode cX9_many 69 = .ok (.aload_n 0, 1) := dop_42 (dn_w dw201_4 5 rfl)
theorem dX9_many_70 : decode cX9_many 70 = .ok (.getfield 199, 3) := dop_180 (dn_w dw201_4 6 rfl) rfl
theorem dX9_many_73 : decode cX9_many 73 = .ok (.ireturn, 1) := dop_172 (dn_w dw201_4 9 rfl)
theorem dX9_many_74 : decode cX9_many 74 = .ok (.aload_n 0, 1) := dop_42 (dn_w dw201_4 10 rfl)
theorem dX9_many_75 : decode cX9_many 75 = .ok (.getfield 94, 3) := dop_180 (dn_w dw201_4 11 rfl) rfl
theorem dX9_many_78 : decode cX9_many 78 = .ok (.ireturn, 1) := dop_172 (dn_w dw201_4 14 rfl)
theorem dX9_many_79 : decode cX9_many 79 = .ok (.aload_n 0, 1) := dop_42 (dn_w dw201_4 15 rfl)
theorem dX9_many_80 : decode cX9_many 80 = .ok (.getfield 283, 3) := dop_180 (dn_w dw201_5 0 rfl) rfl
theorem dX9_many_83 : decode cX9_many 83 = .ok (.ireturn, 1) := dop_172 (dn_w dw201_5 3 rfl)
theorem dX9_many_84 : decode cX9_many 84 = .ok (.iconst (-1), 1) := dop_2 (dn_w dw201_5 4 rfl)
theorem dX9_many_85 : decode cX9_many 85 = .ok (.ireturn, 1) := dop_172 (dn_w dw201_5 5 rfl)
noncomputable def dt202_3 : List Nat := 96 :: 181 :: 1 :: 72 :: 132 :: 4 :: 1 :: 167 :: 255 :: 204 :: 177 :: []
noncomputable def dt202_2 : List Nat := 42 :: 180 :: 0 :: 81 :: 42 :: 180 :: 1 :: 72 :: 46 :: 79 :: 42 :: 89 :: 180 :: 1 :: 72 :: 4 :: dt202_3
noncomputable def dt202_1 : List Nat := 81 :: 42 :: 180 :: 1 :: 72 :: 43 :: 21 :: 4 :: 46 :: 79 :: 167 :: 0 :: 16 :: 43 :: 21 :: 4 :: dt202_2
noncomputable def dt202_0 : List Nat := 3 :: 54 :: 4 :: 21 :: 4 :: 28 :: 162 :: 0 :: 52 :: 29 :: 153 :: 0 :: 19 :: 42 :: 180 :: 0 :: dt202_1
theorem dw202_0 : dn cX9_moveRow 0 = dt202_0 := by decide +kernel
theorem dw202_1 : dn cX9_moveRow 16 = dt202_1 := dn_w dw202_0 16 rfl
theorem dw202_2 : dn cX9_moveRow 32 = dt202_2 := dn_w dw202_1 16 rfl
theorem dw202_3 : dn cX9_moveRow 48 = dt202_3 := dn_w dw202_2 16 rfl
theorem dX9_moveRow_0 : decode cX9_moveRow 0 = .ok (.iconst 0, 1) := dop_3 (dn_w dw202_0 0 rfl)
theorem dX9_moveRow_1 : decode cX9_moveRow 1 = .ok (.istore 4, 2) := dop_54 (dn_w dw202_0 1 rfl)
theorem dX9_moveRow_3 : decode cX9_moveRow 3 = .ok (.iload 4, 2) := dop_21 (dn_w dw202_0 3 rfl)
theorem dX9_moveRow_5 : decode cX9_moveRow 5 = .ok (.iload_n 2, 1) := dop_28 (dn_w dw202_0 5 rfl)
theorem dX9_moveRow_6 : decode cX9_moveRow 6 = .ok (.if_icmp .ge 52, 3) := dop_162 (dn_w dw202_0 6 rfl) rfl
theorem dX9_moveRow_9 : decode cX9_moveRow 9 = .ok (.iload_n 3, 1) := dop_29 (dn_w dw202_0 9 rfl)
theorem dX9_moveRow_10 : decode cX9_moveRow 10 = .ok (.ifCond .eq 19, 3) := dop_153 (dn_w dw202_0 10 rfl) rfl
theorem dX9_moveRow_13 : decode cX9_moveRow 13 = .ok (.aload_n 0, 1) := dop_42 (dn_w dw202_0 13 rfl)
theorem dX9_moveRow_14 : decode cX9_moveRow 14 = .ok (.getfield 81, 3) := dop_180 (dn_w dw202_0 14 rfl) rfl
theorem dX9_moveRow_17 : decode cX9_moveRow 17 = .ok (.aload_n 0, 1) := dop_42 (dn_w dw202_1 1 rfl)
theorem dX9_moveRow_18 : decode cX9_moveRow 18 = .ok (.getfield 328, 3) := dop_180 (dn_w dw202_1 2 rfl) rfl
theorem dX9_moveRow_21 : decode cX9_moveRow 21 = .ok (.aload_n 1, 1) := dop_43 (dn_w dw202_1 5 rfl)
theorem dX9_moveRow_22 : decode cX9_moveRow 22 = .ok (.iload 4, 2) := dop_21 (dn_w dw202_1 6 rfl)
theorem dX9_moveRow_24 : decode cX9_moveRow 24 = .ok (.iaload, 1) := dop_46 (dn_w dw202_1 8 rfl)
theorem dX9_moveRow_25 : decode cX9_moveRow 25 = .ok (.iastore, 1) := dop_79 (dn_w dw202_1 9 rfl)
theorem dX9_moveRow_26 : decode cX9_moveRow 26 = .ok (.goto 16, 3) := dop_167 (dn_w dw202_1 10 rfl) rfl
theorem dX9_moveRow_29 : decode cX9_moveRow 29 = .ok (.aload_n 1, 1) := dop_43 (dn_w dw202_1 13 rfl)
theorem dX9_moveRow_30 : decode cX9_moveRow 30 = .ok (.iload 4, 2) := dop_21 (dn_w dw202_1 14 rfl)
theorem dX9_moveRow_32 : decode cX9_moveRow 32 = .ok (.aload_n 0, 1) := dop_42 (dn_w dw202_2 0 rfl)
theorem dX9_moveRow_33 : decode cX9_moveRow 33 = .ok (.getfield 81, 3) := dop_180 (dn_w dw202_2 1 rfl) rfl
theorem dX9_moveRow_36 : decode cX9_moveRow 36 = .ok (.aload_n 0, 1) := dop_42 (dn_w dw202_2 4 rfl)
theorem dX9_moveRow_37 : decode cX9_moveRow 37 = .ok (.getfield 328, 3) := dop_180 (dn_w dw202_2 5 rfl) rfl
theorem dX9_moveRow_40 : decode cX9_moveRow 40 = .ok (.iaload, 1) := dop_46 (dn_w dw202_2 8 rfl)
theorem dX9_moveRow_41 : decode cX9_moveRow 41 = .ok (.iastore, 1) := dop_79 (dn_w dw202_2 9 rfl)
theorem dX9_moveRow_42 : decode cX9_moveRow 42 = .ok (.aload_n 0, 1) := dop_42 (dn_w dw202_2 10 rfl)
theorem dX9_moveRow_43 : decode cX9_moveRow 43 = .ok (.dup, 1) := dop_89 (dn_w dw202_2 11 rfl)
theorem dX9_moveRow_44 : decode cX9_moveRow 44 = .ok (.getfield 328, 3) := dop_180 (dn_w dw202_2 12 rfl) rfl
theorem dX9_moveRow_47 : decode cX9_moveRow 47 = .ok (.iconst 1, 1) := dop_4 (dn_w dw202_2 15 rfl)
theorem dX9_moveRow_48 : decode cX9_moveRow 48 = .ok (.iadd, 1) := dop_96 (dn_w dw202_3 0 rfl)
theorem dX9_moveRow_49 : decode cX9_moveRow 49 = .ok (.putfield 328, 3) := dop_181 (dn_w dw202_3 1 rfl) rfl
theorem dX9_moveRow_52 : decode cX9_moveRow 52 = .ok (.iinc 4 1, 3) := dop_132 (dn_w dw202_3 4 rfl) rfl
theorem dX9_moveRow_55 : decode cX9_moveRow 55 = .ok (.goto (-52), 3) := dop_167 (dn_w dw202_3 7 rfl) rfl
theorem dX9_moveRow_58 : decode cX9_moveRow 58 = .ok (.return_, 1) := dop_177 (dn_w dw202_3 10 rfl)
noncomputable def dt203_6 : List Nat := 27 :: 182 :: 1 :: 75 :: 177 :: []
noncomputable def dt203_5 : List Nat := 42 :: 180 :: 0 :: 22 :: 16 :: 40 :: 27 :: 182 :: 1 :: 75 :: 42 :: 42 :: 180 :: 0 :: 25 :: 7 :: dt203_6
noncomputable def dt203_4 : List Nat := 27 :: 182 :: 1 :: 75 :: 42 :: 42 :: 180 :: 0 :: 19 :: 16 :: 40 :: 27 :: 182 :: 1 :: 75 :: 42 :: dt203_5
noncomputable def dt203_3 : List Nat := 180 :: 0 :: 13 :: 16 :: 25 :: 27 :: 182 :: 1 :: 75 :: 42 :: 42 :: 180 :: 0 :: 16 :: 16 :: 40 :: dt203_4
noncomputable def dt203_2 : List Nat := 182 :: 1 :: 75 :: 42 :: 42 :: 180 :: 0 :: 7 :: 16 :: 32 :: 27 :: 182 :: 1 :: 75 :: 42 :: 42 :: dt203_3
noncomputable def dt203_1 : List Nat := 180 :: 0 :: 84 :: 4 :: 42 :: 180 :: 0 :: 34 :: 79 :: 42 :: 42 :: 180 :: 0 :: 84 :: 5 :: 27 :: dt203_2
noncomputable def dt203_0 : List Nat := 42 :: 3 :: 181 :: 1 :: 72 :: 42 :: 180 :: 0 :: 84 :: 3 :: 42 :: 180 :: 0 :: 91 :: 79 :: 42 :: dt203_1
theorem dw203_0 : dn cX9_moveAll 0 = dt203_0 := by decide +kernel
theorem dw203_1 : dn cX9_moveAll 16 = dt203_1 := dn_w dw203_0 16 rfl
theorem dw203_2 : dn cX9_moveAll 32 = dt203_2 := dn_w dw203_1 16 rfl
theorem dw203_3 : dn cX9_moveAll 48 = dt203_3 := dn_w dw203_2 16 rfl
theorem dw203_4 : dn cX9_moveAll 64 = dt203_4 := dn_w dw203_3 16 rfl
theorem dw203_5 : dn cX9_moveAll 80 = dt203_5 := dn_w dw203_4 16 rfl
theorem dw203_6 : dn cX9_moveAll 96 = dt203_6 := dn_w dw203_5 16 rfl
theorem dX9_moveAll_0 : decode cX9_moveAll 0 = .ok (.aload_n 0, 1) := dop_42 (dn_w dw203_0 0 rfl)
theorem dX9_moveAll_1 : decode cX9_moveAll 1 = .ok (.iconst 0, 1) := dop_3 (dn_w dw203_0 1 rfl)
theorem dX9_moveAll_2 : decode cX9_moveAll 2 = .ok (.putfield 328, 3) := dop_181 (dn_w dw203_0 2 rfl) rfl
theorem dX9_moveAll_5 : decode cX9_moveAll 5 = .ok (.aload_n 0, 1) := dop_42 (dn_w dw203_0 5 rfl)
theorem dX9_moveAll_6 : decode cX9_moveAll 6 = .ok (.getfield 84, 3) := dop_180 (dn_w dw203_0 6 rfl) rfl
theorem dX9_moveAll_9 : decode cX9_moveAll 9 = .ok (.iconst 0, 1) := dop_3 (dn_w dw203_0 9 rfl)
theorem dX9_moveAll_10 : decode cX9_moveAll 10 = .ok (.aload_n 0, 1) := dop_42 (dn_w dw203_0 10 rfl)
theorem dX9_moveAll_11 : decode cX9_moveAll 11 = .ok (.getfield 91, 3) := dop_180 (dn_w dw203_0 11 rfl) rfl
theorem dX9_moveAll_14 : decode cX9_moveAll 14 = .ok (.iastore, 1) := dop_79 (dn_w dw203_0 14 rfl)
theorem dX9_moveAll_15 : decode cX9_moveAll 15 = .ok (.aload_n 0, 1) := dop_42 (dn_w dw203_0 15 rfl)
theorem dX9_moveAll_16 : decode cX9_moveAll 16 = .ok (.getfield 84, 3) := dop_180 (dn_w dw203_1 0 rfl) rfl
theorem dX9_moveAll_19 : decode cX9_moveAll 19 = .ok (.iconst 1, 1) := dop_4 (dn_w dw203_1 3 rfl)
theorem dX9_moveAll_20 : decode cX9_moveAll 20 = .ok (.aload_n 0, 1) := dop_42 (dn_w dw203_1 4 rfl)
theorem dX9_moveAll_21 : decode cX9_moveAll 21 = .ok (.getfield 34, 3) := dop_180 (dn_w dw203_1 5 rfl) rfl
theorem dX9_moveAll_24 : decode cX9_moveAll 24 = .ok (.iastore, 1) := dop_79 (dn_w dw203_1 8 rfl)
theorem dX9_moveAll_25 : decode cX9_moveAll 25 = .ok (.aload_n 0, 1) := dop_42 (dn_w dw203_1 9 rfl)
theorem dX9_moveAll_26 : decode cX9_moveAll 26 = .ok (.aload_n 0, 1) := dop_42 (dn_w dw203_1 10 rfl)
theorem dX9_moveAll_27 : decode cX9_moveAll 27 = .ok (.getfield 84, 3) := dop_180 (dn_w dw203_1 11 rfl) rfl
theorem dX9_moveAll_30 : decode cX9_moveAll 30 = .ok (.iconst 2, 1) := dop_5 (dn_w dw203_1 14 rfl)
theorem dX9_moveAll_31 : decode cX9_moveAll 31 = .ok (.iload_n 1, 1) := dop_27 (dn_w dw203_1 15 rfl)
theorem dX9_moveAll_32 : decode cX9_moveAll 32 = .ok (.invokevirtual 331, 3) := dop_182 (dn_w dw203_2 0 rfl) rfl
theorem dX9_moveAll_35 : decode cX9_moveAll 35 = .ok (.aload_n 0, 1) := dop_42 (dn_w dw203_2 3 rfl)
theorem dX9_moveAll_36 : decode cX9_moveAll 36 = .ok (.aload_n 0, 1) := dop_42 (dn_w dw203_2 4 rfl)
theorem dX9_moveAll_37 : decode cX9_moveAll 37 = .ok (.getfield 7, 3) := dop_180 (dn_w dw203_2 5 rfl) rfl
theorem dX9_moveAll_40 : decode cX9_moveAll 40 = .ok (.bipush 32, 2) := dop_16 (dn_w dw203_2 8 rfl) rfl
theorem dX9_moveAll_42 : decode cX9_moveAll 42 = .ok (.iload_n 1, 1) := dop_27 (dn_w dw203_2 10 rfl)
theorem dX9_moveAll_43 : decode cX9_moveAll 43 = .ok (.invokevirtual 331, 3) := dop_182 (dn_w dw203_2 11 rfl) rfl
theorem dX9_moveAll_46 : decode cX9_moveAll 46 = .ok (.aload_n 0, 1) := dop_42 (dn_w dw203_2 14 rfl)
theorem dX9_moveAll_47 : decode cX9_moveAll 47 = .ok (.aload_n 0, 1) := dop_42 (dn_w dw203_2 15 rfl)
theorem dX9_moveAll_48 : decode cX9_moveAll 48 = .ok (.getfield 13, 3) := dop_180 (dn_w dw203_3 0 rfl) rfl
theorem dX9_moveAll_51 : decode cX9_moveAll 51 = .ok (.bipush 25, 2) := dop_16 (dn_w dw203_3 3 rfl) rfl
theorem dX9_moveAll_53 : decode cX9_moveAll 53 = .ok (.iload_n 1, 1) := dop_27 (dn_w dw203_3 5 rfl)
theorem dX9_moveAll_54 : decode cX9_moveAll 54 = .ok (.invokevirtual 331, 3) := dop_182 (dn_w dw203_3 6 rfl) rfl
theorem dX9_moveAll_57 : decode cX9_moveAll 57 = .ok (.aload_n 0, 1) := dop_42 (dn_w dw203_3 9 rfl)
theorem dX9_moveAll_58 : decode cX9_moveAll 58 = .ok (.aload_n 0, 1) := dop_42 (dn_w dw203_3 10 rfl)
theorem dX9_moveAll_59 : decode cX9_moveAll 59 = .ok (.getfield 16, 3) := dop_180 (dn_w dw203_3 11 rfl) rfl
theorem dX9_moveAll_62 : decode cX9_moveAll 62 = .ok (.bipush 40, 2) := dop_16 (dn_w dw203_3 14 rfl) rfl
theorem dX9_moveAll_64 : decode cX9_moveAll 64 = .ok (.iload_n 1, 1) := dop_27 (dn_w dw203_4 0 rfl)
theorem dX9_moveAll_65 : decode cX9_moveAll 65 = .ok (.invokevirtual 331, 3) := dop_182 (dn_w dw203_4 1 rfl) rfl
theorem dX9_moveAll_68 : decode cX9_moveAll 68 = .ok (.aload_n 0, 1) := dop_42 (dn_w dw203_4 4 rfl)
theorem dX9_moveAll_69 : decode cX9_moveAll 69 = .ok (.aload_n 0, 1) := dop_42 (dn_w dw203_4 5 rfl)
theorem dX9_moveAll_70 : decode cX9_moveAll 70 = .ok (.getfield 19, 3) := dop_180 (dn_w dw203_4 6 rfl) rfl
theorem dX9_moveAll_73 : decode cX9_moveAll 73 = .ok (.bipush 40, 2) := dop_16 (dn_w dw203_4 9 rfl) rfl
theorem dX9_moveAll_75 : decode cX9_moveAll 75 = .ok (.iload_n 1, 1) := dop_27 (dn_w dw203_4 11 rfl)
theorem dX9_moveAll_76 : decode cX9_moveAll 76 = .ok (.invokevirtual 331, 3) := dop_182 (dn_w dw203_4 12 rfl) rfl
theorem dX9_moveAll_79 : decode cX9_moveAll 79 = .ok (.aload_n 0, 1) := dop_42 (dn_w dw203_4 15 rfl)
theorem dX9_moveAll_80 : decode cX9_moveAll 80 = .ok (.aload_n 0, 1) := dop_42 (dn_w dw203_5 0 rfl)
theorem dX9_moveAll_81 : decode cX9_moveAll 81 = .ok (.getfield 22, 3) := dop_180 (dn_w dw203_5 1 rfl) rfl
theorem dX9_moveAll_84 : decode cX9_moveAll 84 = .ok (.bipush 40, 2) := dop_16 (dn_w dw203_5 4 rfl) rfl
theorem dX9_moveAll_86 : decode cX9_moveAll 86 = .ok (.iload_n 1, 1) := dop_27 (dn_w dw203_5 6 rfl)
theorem dX9_moveAll_87 : decode cX9_moveAll 87 = .ok (.invokevirtual 331, 3) := dop_182 (dn_w dw203_5 7 rfl) rfl
theorem dX9_moveAll_90 : decode cX9_moveAll 90 = .ok (.aload_n 0, 1) := dop_42 (dn_w dw203_5 10 rfl)
theorem dX9_moveAll_91 : decode cX9_moveAll 91 = .ok (.aload_n 0, 1) := dop_42 (dn_w dw203_5 11 rfl)
theorem dX9_moveAll_92 : decode cX9_moveAll 92 = .ok (.getfield 25, 3) := dop_180 (dn_w dw203_5 12 rfl) rfl
theorem dX9_moveAll_95 : decode cX9_moveAll 95 = .ok (.iconst 4, 1) := dop_7 (dn_w dw203_5 15 rfl)
theorem dX9_moveAll_96 : decode cX9_moveAll 96 = .ok (.iload_n 1, 1) := dop_27 (dn_w dw203_6 0 rfl)
theorem dX9_moveAll_97 : decode cX9_moveAll 97 = .ok (.invokevirtual 331, 3) := dop_182 (dn_w dw203_6 1 rfl) rfl
theorem dX9_moveAll_100 : decode cX9_moveAll 100 = .ok (.return_, 1) := dop_177 (dn_w dw203_6 4 rfl)
noncomputable def dt204_0 : List Nat := 42 :: 4 :: 182 :: 1 :: 79 :: 42 :: 4 :: 181 :: 1 :: 83 :: 4 :: 172 :: []
theorem dw204_0 : dn cX9_keep 0 = dt204_0 := by decide +kernel
theorem dX9_keep_0 : decode cX9_keep 0 = .ok (.aload_n 0, 1) := dop_42 (dn_w dw204_0 0 rfl)
theorem dX9_keep_1 : decode cX9_keep 1 = .ok (.iconst 1, 1) := dop_4 (dn_w dw204_0 1 rfl)
theorem dX9_keep_2 : decode cX9_keep 2 = .ok (.invokevirtual 335, 3) := dop_182 (dn_w dw204_0 2 rfl) rfl
theorem dX9_keep_5 : decode cX9_keep 5 = .ok (.aload_n 0, 1) := dop_42 (dn_w dw204_0 5 rfl)
theorem dX9_keep_6 : decode cX9_keep 6 = .ok (.iconst 1, 1) := dop_4 (dn_w dw204_0 6 rfl)
theorem dX9_keep_7 : decode cX9_keep 7 = .ok (.putfield 339, 3) := dop_181 (dn_w dw204_0 7 rfl) rfl
theorem dX9_keep_10 : decode cX9_keep 10 = .ok (.iconst 1, 1) := dop_4 (dn_w dw204_0 10 rfl)
theorem dX9_keep_11 : decode cX9_keep 11 = .ok (.ireturn, 1) := dop_172 (dn_w dw204_0 11 rfl)
noncomputable def dt205_2 : List Nat := 181 :: 0 :: 34 :: 42 :: 180 :: 0 :: 13 :: 3 :: 46 :: 172 :: []
noncomputable def dt205_1 : List Nat := 42 :: 180 :: 0 :: 84 :: 3 :: 46 :: 181 :: 0 :: 91 :: 42 :: 42 :: 180 :: 0 :: 84 :: 4 :: 46 :: dt205_2
noncomputable def dt205_0 : List Nat := 42 :: 180 :: 1 :: 83 :: 154 :: 0 :: 6 :: 16 :: 253 :: 172 :: 42 :: 3 :: 182 :: 1 :: 79 :: 42 :: dt205_1
theorem dw205_0 : dn cX9_again 0 = dt205_0 := by decide +kernel
theorem dw205_1 : dn cX9_again 16 = dt205_1 := dn_w dw205_0 16 rfl
theorem dw205_2 : dn cX9_again 32 = dt205_2 := dn_w dw205_1 16 rfl
theorem dX9_again_0 : decode cX9_again 0 = .ok (.aload_n 0, 1) := dop_42 (dn_w dw205_0 0 rfl)
theorem dX9_again_1 : decode cX9_again 1 = .ok (.getfield 339, 3) := dop_180 (dn_w dw205_0 1 rfl) rfl
theorem dX9_again_4 : decode cX9_again 4 = .ok (.ifCond .ne 6, 3) := dop_154 (dn_w dw205_0 4 rfl) rfl
theorem dX9_again_7 : decode cX9_again 7 = .ok (.bipush (-3), 2) := dop_16 (dn_w dw205_0 7 rfl) rfl
theorem dX9_again_9 : decode cX9_again 9 = .ok (.ireturn, 1) := dop_172 (dn_w dw205_0 9 rfl)
theorem dX9_again_10 : decode cX9_again 10 = .ok (.aload_n 0, 1) := dop_42 (dn_w dw205_0 10 rfl)
theorem dX9_again_11 : decode cX9_again 11 = .ok (.iconst 0, 1) := dop_3 (dn_w dw205_0 11 rfl)
theorem dX9_again_12 : decode cX9_again 12 = .ok (.invokevirtual 335, 3) := dop_182 (dn_w dw205_0 12 rfl) rfl
theorem dX9_again_15 : decode cX9_again 15 = .ok (.aload_n 0, 1) := dop_42 (dn_w dw205_0 15 rfl)
theorem dX9_again_16 : decode cX9_again 16 = .ok (.aload_n 0, 1) := dop_42 (dn_w dw205_1 0 rfl)
theorem dX9_again_17 : decode cX9_again 17 = .ok (.getfield 84, 3) := dop_180 (dn_w dw205_1 1 rfl) rfl
theorem dX9_again_20 : decode cX9_again 20 = .ok (.iconst 0, 1) := dop_3 (dn_w dw205_1 4 rfl)
theorem dX9_again_21 : decode cX9_again 21 = .ok (.iaload, 1) := dop_46 (dn_w dw205_1 5 rfl)
theorem dX9_again_22 : decode cX9_again 22 = .ok (.putfield 91, 3) := dop_181 (dn_w dw205_1 6 rfl) rfl
theorem dX9_again_25 : decode cX9_again 25 = .ok (.aload_n 0, 1) := dop_42 (dn_w dw205_1 9 rfl)
theorem dX9_again_26 : decode cX9_again 26 = .ok (.aload_n 0, 1) := dop_42 (dn_w dw205_1 10 rfl)
theorem dX9_again_27 : decode cX9_again 27 = .ok (.getfield 84, 3) := dop_180 (dn_w dw205_1 11 rfl) rfl
theorem dX9_again_30 : decode cX9_again 30 = .ok (.iconst 1, 1) := dop_4 (dn_w dw205_1 14 rfl)
theorem dX9_again_31 : decode cX9_again 31 = .ok (.iaload, 1) := dop_46 (dn_w dw205_1 15 rfl)
theorem dX9_again_32 : decode cX9_again 32 = .ok (.putfield 34, 3) := dop_181 (dn_w dw205_2 0 rfl) rfl
theorem dX9_again_35 : decode cX9_again 35 = .ok (.aload_n 0, 1) := dop_42 (dn_w dw205_2 3 rfl)
theorem dX9_again_36 : decode cX9_again 36 = .ok (.getfield 13, 3) := dop_180 (dn_w dw205_2 4 rfl) rfl
theorem dX9_again_39 : decode cX9_again 39 = .ok (.iconst 0, 1) := dop_3 (dn_w dw205_2 7 rfl)
theorem dX9_again_40 : decode cX9_again 40 = .ok (.iaload, 1) := dop_46 (dn_w dw205_2 8 rfl)
theorem dX9_again_41 : decode cX9_again 41 = .ok (.ireturn, 1) := dop_172 (dn_w dw205_2 9 rfl)
noncomputable def dt206_3 : List Nat := 26 :: 16 :: 63 :: 126 :: 172 :: []
noncomputable def dt206_2 : List Nat := 126 :: 59 :: 26 :: 26 :: 16 :: 8 :: 124 :: 96 :: 59 :: 26 :: 26 :: 16 :: 16 :: 124 :: 96 :: 59 :: dt206_3
noncomputable def dt206_1 : List Nat := 5 :: 124 :: 19 :: 1 :: 10 :: 126 :: 96 :: 59 :: 26 :: 26 :: 7 :: 124 :: 96 :: 19 :: 1 :: 11 :: dt206_2
noncomputable def dt206_0 : List Nat := 26 :: 26 :: 4 :: 124 :: 19 :: 1 :: 9 :: 126 :: 100 :: 59 :: 26 :: 19 :: 1 :: 10 :: 126 :: 26 :: dt206_1
theorem dw206_0 : dn cJ6_bitCount_0f7a4 0 = dt206_0 := by decide +kernel
theorem dw206_1 : dn cJ6_bitCount_0f7a4 16 = dt206_1 := dn_w dw206_0 16 rfl
theorem dw206_2 : dn cJ6_bitCount_0f7a4 32 = dt206_2 := dn_w dw206_1 16 rfl
theorem dw206_3 : dn cJ6_bitCount_0f7a4 48 = dt206_3 := dn_w dw206_2 16 rfl
theorem dJ6_bitCount_0f7a4_0 : decode cJ6_bitCount_0f7a4 0 = .ok (.iload_n 0, 1) := dop_26 (dn_w dw206_0 0 rfl)
theorem dJ6_bitCount_0f7a4_1 : decode cJ6_bitCount_0f7a4 1 = .ok (.iload_n 0, 1) := dop_26 (dn_w dw206_0 1 rfl)
theorem dJ6_bitCount_0f7a4_2 : decode cJ6_bitCount_0f7a4 2 = .ok (.iconst 1, 1) := dop_4 (dn_w dw206_0 2 rfl)
theorem dJ6_bitCount_0f7a4_3 : decode cJ6_bitCount_0f7a4 3 = .ok (.iushr, 1) := dop_124 (dn_w dw206_0 3 rfl)
theorem dJ6_bitCount_0f7a4_4 : decode cJ6_bitCount_0f7a4 4 = .ok (.ldc_w 265, 3) := dop_19 (dn_w dw206_0 4 rfl) rfl
theorem dJ6_bitCount_0f7a4_7 : decode cJ6_bitCount_0f7a4 7 = .ok (.iand, 1) := dop_126 (dn_w dw206_0 7 rfl)
theorem dJ6_bitCount_0f7a4_8 : decode cJ6_bitCount_0f7a4 8 = .ok (.isub, 1) := dop_100 (dn_w dw206_0 8 rfl)
theorem dJ6_bitCount_0f7a4_9 : decode cJ6_bitCount_0f7a4 9 = .ok (.istore_n 0, 1) := dop_59 (dn_w dw206_0 9 rfl)
theorem dJ6_bitCount_0f7a4_10 : decode cJ6_bitCount_0f7a4 10 = .ok (.iload_n 0, 1) := dop_26 (dn_w dw206_0 10 rfl)
theorem dJ6_bitCount_0f7a4_11 : decode cJ6_bitCount_0f7a4 11 = .ok (.ldc_w 266, 3) := dop_19 (dn_w dw206_0 11 rfl) rfl
theorem dJ6_bitCount_0f7a4_14 : decode cJ6_bitCount_0f7a4 14 = .ok (.iand, 1) := dop_126 (dn_w dw206_0 14 rfl)
theorem dJ6_bitCount_0f7a4_15 : decode cJ6_bitCount_0f7a4 15 = .ok (.iload_n 0, 1) := dop_26 (dn_w dw206_0 15 rfl)
theorem dJ6_bitCount_0f7a4_16 : decode cJ6_bitCount_0f7a4 16 = .ok (.iconst 2, 1) := dop_5 (dn_w dw206_1 0 rfl)
theorem dJ6_bitCount_0f7a4_17 : decode cJ6_bitCount_0f7a4 17 = .ok (.iushr, 1) := dop_124 (dn_w dw206_1 1 rfl)
theorem dJ6_bitCount_0f7a4_18 : decode cJ6_bitCount_0f7a4 18 = .ok (.ldc_w 266, 3) := dop_19 (dn_w dw206_1 2 rfl) rfl
theorem dJ6_bitCount_0f7a4_21 : decode cJ6_bitCount_0f7a4 21 = .ok (.iand, 1) := dop_126 (dn_w dw206_1 5 rfl)
theorem dJ6_bitCount_0f7a4_22 : decode cJ6_bitCount_0f7a4 22 = .ok (.iadd, 1) := dop_96 (dn_w dw206_1 6 rfl)
theorem dJ6_bitCount_0f7a4_23 : decode cJ6_bitCount_0f7a4 23 = .ok (.istore_n 0, 1) := dop_59 (dn_w dw206_1 7 rfl)
theorem dJ6_bitCount_0f7a4_24 : decode cJ6_bitCount_0f7a4 24 = .ok (.iload_n 0, 1) := dop_26 (dn_w dw206_1 8 rfl)
theorem dJ6_bitCount_0f7a4_25 : decode cJ6_bitCount_0f7a4 25 = .ok (.iload_n 0, 1) := dop_26 (dn_w dw206_1 9 rfl)
theorem dJ6_bitCount_0f7a4_26 : decode cJ6_bitCount_0f7a4 26 = .ok (.iconst 4, 1) := dop_7 (dn_w dw206_1 10 rfl)
theorem dJ6_bitCount_0f7a4_27 : decode cJ6_bitCount_0f7a4 27 = .ok (.iushr, 1) := dop_124 (dn_w dw206_1 11 rfl)
theorem dJ6_bitCount_0f7a4_28 : decode cJ6_bitCount_0f7a4 28 = .ok (.iadd, 1) := dop_96 (dn_w dw206_1 12 rfl)
theorem dJ6_bitCount_0f7a4_29 : decode cJ6_bitCount_0f7a4 29 = .ok (.ldc_w 267, 3) := dop_19 (dn_w dw206_1 13 rfl) rfl
theorem dJ6_bitCount_0f7a4_32 : decode cJ6_bitCount_0f7a4 32 = .ok (.iand, 1) := dop_126 (dn_w dw206_2 0 rfl)
theorem dJ6_bitCount_0f7a4_33 : decode cJ6_bitCount_0f7a4 33 = .ok (.istore_n 0, 1) := dop_59 (dn_w dw206_2 1 rfl)
theorem dJ6_bitCount_0f7a4_34 : decode cJ6_bitCount_0f7a4 34 = .ok (.iload_n 0, 1) := dop_26 (dn_w dw206_2 2 rfl)
theorem dJ6_bitCount_0f7a4_35 : decode cJ6_bitCount_0f7a4 35 = .ok (.iload_n 0, 1) := dop_26 (dn_w dw206_2 3 rfl)
theorem dJ6_bitCount_0f7a4_36 : decode cJ6_bitCount_0f7a4 36 = .ok (.bipush 8, 2) := dop_16 (dn_w dw206_2 4 rfl) rfl
theorem dJ6_bitCount_0f7a4_38 : decode cJ6_bitCount_0f7a4 38 = .ok (.iushr, 1) := dop_124 (dn_w dw206_2 6 rfl)
theorem dJ6_bitCount_0f7a4_39 : decode cJ6_bitCount_0f7a4 39 = .ok (.iadd, 1) := dop_96 (dn_w dw206_2 7 rfl)
theorem dJ6_bitCount_0f7a4_40 : decode cJ6_bitCount_0f7a4 40 = .ok (.istore_n 0, 1) := dop_59 (dn_w dw206_2 8 rfl)
theorem dJ6_bitCount_0f7a4_41 : decode cJ6_bitCount_0f7a4 41 = .ok (.iload_n 0, 1) := dop_26 (dn_w dw206_2 9 rfl)
theorem dJ6_bitCount_0f7a4_42 : decode cJ6_bitCount_0f7a4 42 = .ok (.iload_n 0, 1) := dop_26 (dn_w dw206_2 10 rfl)
theorem dJ6_bitCount_0f7a4_43 : decode cJ6_bitCount_0f7a4 43 = .ok (.bipush 16, 2) := dop_16 (dn_w dw206_2 11 rfl) rfl
theorem dJ6_bitCount_0f7a4_45 : decode cJ6_bitCount_0f7a4 45 = .ok (.iushr, 1) := dop_124 (dn_w dw206_2 13 rfl)
theorem dJ6_bitCount_0f7a4_46 : decode cJ6_bitCount_0f7a4 46 = .ok (.iadd, 1) := dop_96 (dn_w dw206_2 14 rfl)
theorem dJ6_bitCount_0f7a4_47 : decode cJ6_bitCount_0f7a4 47 = .ok (.istore_n 0, 1) := dop_59 (dn_w dw206_2 15 rfl)
theorem dJ6_bitCount_0f7a4_48 : decode cJ6_bitCount_0f7a4 48 = .ok (.iload_n 0, 1) := dop_26 (dn_w dw206_3 0 rfl)
theorem dJ6_bitCount_0f7a4_49 : decode cJ6_bitCount_0f7a4 49 = .ok (.bipush 63, 2) := dop_16 (dn_w dw206_3 1 rfl) rfl
theorem dJ6_bitCount_0f7a4_51 : decode cJ6_bitCount_0f7a4 51 = .ok (.iand, 1) := dop_126 (dn_w dw206_3 3 rfl)
theorem dJ6_bitCount_0f7a4_52 : decode cJ6_bitCount_0f7a4 52 = .ok (.ireturn, 1) := dop_172 (dn_w dw206_3 4 rfl)
noncomputable def dt207_0 : List Nat := 26 :: 27 :: 161 :: 0 :: 7 :: 26 :: 167 :: 0 :: 4 :: 27 :: 172 :: []
theorem dw207_0 : dn cJ9_max_7cf53 0 = dt207_0 := by decide +kernel
theorem dJ9_max_7cf53_0 : decode cJ9_max_7cf53 0 = .ok (.iload_n 0, 1) := dop_26 (dn_w dw207_0 0 rfl)
theorem dJ9_max_7cf53_1 : decode cJ9_max_7cf53 1 = .ok (.iload_n 1, 1) := dop_27 (dn_w dw207_0 1 rfl)
theorem dJ9_max_7cf53_2 : decode cJ9_max_7cf53 2 = .ok (.if_icmp .lt 7, 3) := dop_161 (dn_w dw207_0 2 rfl) rfl
theorem dJ9_max_7cf53_5 : decode cJ9_max_7cf53 5 = .ok (.iload_n 0, 1) := dop_26 (dn_w dw207_0 5 rfl)
theorem dJ9_max_7cf53_6 : decode cJ9_max_7cf53 6 = .ok (.goto 4, 3) := dop_167 (dn_w dw207_0 6 rfl) rfl
theorem dJ9_max_7cf53_9 : decode cJ9_max_7cf53 9 = .ok (.iload_n 1, 1) := dop_27 (dn_w dw207_0 9 rfl)
theorem dJ9_max_7cf53_10 : decode cJ9_max_7cf53 10 = .ok (.ireturn, 1) := dop_172 (dn_w dw207_0 10 rfl)
noncomputable def dt208_0 : List Nat := 42 :: 180 :: 0 :: 9 :: 190 :: 42 :: 182 :: 1 :: 79 :: 122 :: 172 :: []
theorem dw208_0 : dn cJ0_length_8abf5 0 = dt208_0 := by decide +kernel
theorem dJ0_length_8abf5_0 : decode cJ0_length_8abf5 0 = .ok (.aload_n 0, 1) := dop_42 (dn_w dw208_0 0 rfl)
theorem dJ0_length_8abf5_1 : decode cJ0_length_8abf5 1 = .ok (.getfield 9, 3) := dop_180 (dn_w dw208_0 1 rfl) rfl
theorem dJ0_length_8abf5_4 : decode cJ0_length_8abf5 4 = .ok (.arraylength, 1) := dop_190 (dn_w dw208_0 4 rfl)
theorem dJ0_length_8abf5_5 : decode cJ0_length_8abf5 5 = .ok (.aload_n 0, 1) := dop_42 (dn_w dw208_0 5 rfl)
theorem dJ0_length_8abf5_6 : decode cJ0_length_8abf5 6 = .ok (.invokevirtual 335, 3) := dop_182 (dn_w dw208_0 6 rfl) rfl
theorem dJ0_length_8abf5_9 : decode cJ0_length_8abf5 9 = .ok (.ishr, 1) := dop_122 (dn_w dw208_0 9 rfl)
theorem dJ0_length_8abf5_10 : decode cJ0_length_8abf5 10 = .ok (.ireturn, 1) := dop_172 (dn_w dw208_0 10 rfl)
noncomputable def dt209_1 : List Nat := 42 :: 180 :: 0 :: 9 :: 27 :: 184 :: 1 :: 242 :: 172 :: []
noncomputable def dt209_0 : List Nat := 42 :: 182 :: 1 :: 236 :: 153 :: 0 :: 12 :: 42 :: 180 :: 0 :: 9 :: 27 :: 184 :: 1 :: 239 :: 172 :: dt209_1
theorem dw209_0 : dn cJ0_charAt_5068e 0 = dt209_0 := by decide +kernel
theorem dw209_1 : dn cJ0_charAt_5068e 16 = dt209_1 := dn_w dw209_0 16 rfl
theorem dJ0_charAt_5068e_0 : decode cJ0_charAt_5068e 0 = .ok (.aload_n 0, 1) := dop_42 (dn_w dw209_0 0 rfl)
theorem dJ0_charAt_5068e_1 : decode cJ0_charAt_5068e 1 = .ok (.invokevirtual 492, 3) := dop_182 (dn_w dw209_0 1 rfl) rfl
theorem dJ0_charAt_5068e_4 : decode cJ0_charAt_5068e 4 = .ok (.ifCond .eq 12, 3) := dop_153 (dn_w dw209_0 4 rfl) rfl
theorem dJ0_charAt_5068e_7 : decode cJ0_charAt_5068e 7 = .ok (.aload_n 0, 1) := dop_42 (dn_w dw209_0 7 rfl)
theorem dJ0_charAt_5068e_8 : decode cJ0_charAt_5068e 8 = .ok (.getfield 9, 3) := dop_180 (dn_w dw209_0 8 rfl) rfl
theorem dJ0_charAt_5068e_11 : decode cJ0_charAt_5068e 11 = .ok (.iload_n 1, 1) := dop_27 (dn_w dw209_0 11 rfl)
theorem dJ0_charAt_5068e_12 : decode cJ0_charAt_5068e 12 = .ok (.invokestatic 495, 3) := dop_184 (dn_w dw209_0 12 rfl) rfl
theorem dJ0_charAt_5068e_15 : decode cJ0_charAt_5068e 15 = .ok (.ireturn, 1) := dop_172 (dn_w dw209_0 15 rfl)
theorem dJ0_charAt_5068e_16 : decode cJ0_charAt_5068e 16 = .ok (.aload_n 0, 1) := dop_42 (dn_w dw209_1 0 rfl)
theorem dJ0_charAt_5068e_17 : decode cJ0_charAt_5068e 17 = .ok (.getfield 9, 3) := dop_180 (dn_w dw209_1 1 rfl) rfl
theorem dJ0_charAt_5068e_20 : decode cJ0_charAt_5068e 20 = .ok (.iload_n 1, 1) := dop_27 (dn_w dw209_1 4 rfl)
theorem dJ0_charAt_5068e_21 : decode cJ0_charAt_5068e 21 = .ok (.invokestatic 498, 3) := dop_184 (dn_w dw209_1 5 rfl) rfl
theorem dJ0_charAt_5068e_24 : decode cJ0_charAt_5068e 24 = .ok (.ireturn, 1) := dop_172 (dn_w dw209_1 8 rfl)
noncomputable def dt210_0 : List Nat := 178 :: 0 :: 38 :: 153 :: 0 :: 10 :: 42 :: 180 :: 0 :: 15 :: 167 :: 0 :: 4 :: 4 :: 172 :: []
theorem dw210_0 : dn cJ0_coder_7d493 0 = dt210_0 := by decide +kernel
theorem dJ0_coder_7d493_0 : decode cJ0_coder_7d493 0 = .ok (.getstatic 38, 3) := dop_178 (dn_w dw210_0 0 rfl) rfl
theorem dJ0_coder_7d493_3 : decode cJ0_coder_7d493 3 = .ok (.ifCond .eq 10, 3) := dop_153 (dn_w dw210_0 3 rfl) rfl
theorem dJ0_coder_7d493_6 : decode cJ0_coder_7d493 6 = .ok (.aload_n 0, 1) := dop_42 (dn_w dw210_0 6 rfl)
theorem dJ0_coder_7d493_7 : decode cJ0_coder_7d493 7 = .ok (.getfield 15, 3) := dop_180 (dn_w dw210_0 7 rfl) rfl
theorem dJ0_coder_7d493_10 : decode cJ0_coder_7d493 10 = .ok (.goto 4, 3) := dop_167 (dn_w dw210_0 10 rfl) rfl
theorem dJ0_coder_7d493_13 : decode cJ0_coder_7d493 13 = .ok (.iconst 1, 1) := dop_4 (dn_w dw210_0 13 rfl)
theorem dJ0_coder_7d493_14 : decode cJ0_coder_7d493 14 = .ok (.ireturn, 1) := dop_172 (dn_w dw210_0 14 rfl)
noncomputable def dt211_1 : List Nat := 4 :: 3 :: 172 :: []
noncomputable def dt211_0 : List Nat := 178 :: 0 :: 38 :: 153 :: 0 :: 14 :: 42 :: 180 :: 0 :: 15 :: 154 :: 0 :: 7 :: 4 :: 167 :: 0 :: dt211_1
theorem dw211_0 : dn cJ0_isLatin1_aae02 0 = dt211_0 := by decide +kernel
theorem dw211_1 : dn cJ0_isLatin1_aae02 16 = dt211_1 := dn_w dw211_0 16 rfl
theorem dJ0_isLatin1_aae02_0 : decode cJ0_isLatin1_aae02 0 = .ok (.getstatic 38, 3) := dop_178 (dn_w dw211_0 0 rfl) rfl
theorem dJ0_isLatin1_aae02_3 : decode cJ0_isLatin1_aae02 3 = .ok (.ifCond .eq 14, 3) := dop_153 (dn_w dw211_0 3 rfl) rfl
theorem dJ0_isLatin1_aae02_6 : decode cJ0_isLatin1_aae02 6 = .ok (.aload_n 0, 1) := dop_42 (dn_w dw211_0 6 rfl)
theorem dJ0_isLatin1_aae02_7 : decode cJ0_isLatin1_aae02 7 = .ok (.getfield 15, 3) := dop_180 (dn_w dw211_0 7 rfl) rfl
theorem dJ0_isLatin1_aae02_10 : decode cJ0_isLatin1_aae02 10 = .ok (.ifCond .ne 7, 3) := dop_154 (dn_w dw211_0 10 rfl) rfl
theorem dJ0_isLatin1_aae02_13 : decode cJ0_isLatin1_aae02 13 = .ok (.iconst 1, 1) := dop_4 (dn_w dw211_0 13 rfl)
theorem dJ0_isLatin1_aae02_14 : decode cJ0_isLatin1_aae02 14 = .ok (.goto 4, 3) := dop_167 (dn_w dw211_0 14 rfl) rfl
theorem dJ0_isLatin1_aae02_17 : decode cJ0_isLatin1_aae02 17 = .ok (.iconst 0, 1) := dop_3 (dn_w dw211_1 1 rfl)
theorem dJ0_isLatin1_aae02_18 : decode cJ0_isLatin1_aae02 18 = .ok (.ireturn, 1) := dop_172 (dn_w dw211_1 2 rfl)
noncomputable def dt212_0 : List Nat := 26 :: 27 :: 178 :: 4 :: 29 :: 184 :: 4 :: 35 :: 87 :: 177 :: []
theorem dw212_0 : dn cJ0_checkIndex_df160 0 = dt212_0 := by decide +kernel
theorem dJ0_checkIndex_df160_0 : decode cJ0_checkIndex_df160 0 = .ok (.iload_n 0, 1) := dop_26 (dn_w dw212_0 0 rfl)
theorem dJ0_checkIndex_df160_1 : decode cJ0_checkIndex_df160 1 = .ok (.iload_n 1, 1) := dop_27 (dn_w dw212_0 1 rfl)
theorem dJ0_checkIndex_df160_2 : decode cJ0_checkIndex_df160 2 = .ok (.getstatic 1053, 3) := dop_178 (dn_w dw212_0 2 rfl) rfl
theorem dJ0_checkIndex_df160_5 : decode cJ0_checkIndex_df160 5 = .ok (.invokestatic 1059, 3) := dop_184 (dn_w dw212_0 5 rfl) rfl
theorem dJ0_checkIndex_df160_8 : decode cJ0_checkIndex_df160 8 = .ok (.pop, 1) := dop_87 (dn_w dw212_0 8 rfl)
theorem dJ0_checkIndex_df160_9 : decode cJ0_checkIndex_df160 9 = .ok (.return_, 1) := dop_177 (dn_w dw212_0 9 rfl)
noncomputable def dt213_0 : List Nat := 27 :: 42 :: 190 :: 184 :: 0 :: 9 :: 42 :: 27 :: 51 :: 17 :: 0 :: 255 :: 126 :: 146 :: 172 :: []
theorem dw213_0 : dn cJ1_charAt_3b067 0 = dt213_0 := by decide +kernel
theorem dJ1_charAt_3b067_0 : decode cJ1_charAt_3b067 0 = .ok (.iload_n 1, 1) := dop_27 (dn_w dw213_0 0 rfl)
theorem dJ1_charAt_3b067_1 : decode cJ1_charAt_3b067 1 = .ok (.aload_n 0, 1) := dop_42 (dn_w dw213_0 1 rfl)
theorem dJ1_charAt_3b067_2 : decode cJ1_charAt_3b067 2 = .ok (.arraylength, 1) := dop_190 (dn_w dw213_0 2 rfl)
theorem dJ1_charAt_3b067_3 : decode cJ1_charAt_3b067 3 = .ok (.invokestatic 9, 3) := dop_184 (dn_w dw213_0 3 rfl) rfl
theorem dJ1_charAt_3b067_6 : decode cJ1_charAt_3b067 6 = .ok (.aload_n 0, 1) := dop_42 (dn_w dw213_0 6 rfl)
theorem dJ1_charAt_3b067_7 : decode cJ1_charAt_3b067 7 = .ok (.iload_n 1, 1) := dop_27 (dn_w dw213_0 7 rfl)
theorem dJ1_charAt_3b067_8 : decode cJ1_charAt_3b067 8 = .ok (.baload, 1) := dop_51 (dn_w dw213_0 8 rfl)
theorem dJ1_charAt_3b067_9 : decode cJ1_charAt_3b067 9 = .ok (.sipush 255, 3) := dop_17 (dn_w dw213_0 9 rfl) rfl
theorem dJ1_charAt_3b067_12 : decode cJ1_charAt_3b067 12 = .ok (.iand, 1) := dop_126 (dn_w dw213_0 12 rfl)
theorem dJ1_charAt_3b067_13 : decode cJ1_charAt_3b067 13 = .ok (.i2c, 1) := dop_146 (dn_w dw213_0 13 rfl)
theorem dJ1_charAt_3b067_14 : decode cJ1_charAt_3b067 14 = .ok (.ireturn, 1) := dop_172 (dn_w dw213_0 14 rfl)
noncomputable def dt214_3 : List Nat := 51 :: 17 :: 0 :: 255 :: 126 :: 178 :: 0 :: 63 :: 120 :: 128 :: 146 :: 172 :: []
noncomputable def dt214_2 : List Nat := 42 :: 27 :: 132 :: 1 :: 1 :: 51 :: 17 :: 0 :: 255 :: 126 :: 178 :: 0 :: 59 :: 120 :: 42 :: 27 :: dt214_3
noncomputable def dt214_1 : List Nat := 0 :: 13 :: 187 :: 0 :: 52 :: 89 :: 18 :: 54 :: 183 :: 0 :: 56 :: 191 :: 27 :: 4 :: 120 :: 60 :: dt214_2
noncomputable def dt214_0 : List Nat := 178 :: 0 :: 44 :: 154 :: 0 :: 25 :: 27 :: 155 :: 0 :: 11 :: 27 :: 42 :: 184 :: 0 :: 48 :: 161 :: dt214_1
theorem dw214_0 : dn cJ2_getChar_3b067 0 = dt214_0 := by decide +kernel
theorem dw214_1 : dn cJ2_getChar_3b067 16 = dt214_1 := dn_w dw214_0 16 rfl
theorem dw214_2 : dn cJ2_getChar_3b067 32 = dt214_2 := dn_w dw214_1 16 rfl
theorem dw214_3 : dn cJ2_getChar_3b067 48 = dt214_3 := dn_w dw214_2 16 rfl
theorem dJ2_getChar_3b067_0 : decode cJ2_getChar_3b067 0 = .ok (.getstatic 44, 3) := dop_178 (dn_w dw214_0 0 rfl) rfl
theorem dJ2_getChar_3b067_3 : decode cJ2_getChar_3b067 3 = .ok (.ifCond .ne 25, 3) := dop_154 (dn_w dw214_0 3 rfl) rfl
theorem dJ2_getChar_3b067_6 : decode cJ2_getChar_3b067 6 = .ok (.iload_n 1, 1) := dop_27 (dn_w dw214_0 6 rfl)
theorem dJ2_getChar_3b067_7 : decode cJ2_getChar_3b067 7 = .ok (.ifCond .lt 11, 3) := dop_155 (dn_w dw214_0 7 rfl) rfl
theorem dJ2_getChar_3b067_10 : decode cJ2_getChar_3b067 10 = .ok (.iload_n 1, 1) := dop_27 (dn_w dw214_0 10 rfl)
theorem dJ2_getChar_3b067_11 : decode cJ2_getChar_3b067 11 = .ok (.aload_n 0, 1) := dop_42 (dn_w dw214_0 11 rfl)
theorem dJ2_getChar_3b067_12 : decode cJ2_getChar_3b067 12 = .ok (.invokestatic 48, 3) := dop_184 (dn_w dw214_0 12 rfl) rfl
theorem dJ2_getChar_3b067_15 : decode cJ2_getChar_3b067 15 = .ok (.if_icmp .lt 13, 3) := dop_161 (dn_w dw214_0 15 rfl) rfl
theorem dJ2_getChar_3b067_18 : decode cJ2_getChar_3b067 18 = .ok (.new 52, 3) := dop_187 (dn_w dw214_1 2 rfl) rfl
theorem dJ2_getChar_3b067_21 : decode cJ2_getChar_3b067 21 = .ok (.dup, 1) := dop_89 (dn_w dw214_1 5 rfl)
theorem dJ2_getChar_3b067_22 : decode cJ2_getChar_3b067 22 = .ok (.ldc 54, 2) := dop_18 (dn_w dw214_1 6 rfl)
theorem dJ2_getChar_3b067_24 : decode cJ2_getChar_3b067 24 = .ok (.invokespecial 56, 3) := dop_183 (dn_w dw214_1 8 rfl) rfl
theorem dJ2_getChar_3b067_27 : decode cJ2_getChar_3b067 27 = .ok (.athrow, 1) := dop_191 (dn_w dw214_1 11 rfl)
theorem dJ2_getChar_3b067_28 : decode cJ2_getChar_3b067 28 = .ok (.iload_n 1, 1) := dop_27 (dn_w dw214_1 12 rfl)
theorem dJ2_getChar_3b067_29 : decode cJ2_getChar_3b067 29 = .ok (.iconst 1, 1) := dop_4 (dn_w dw214_1 13 rfl)
theorem dJ2_getChar_3b067_30 : decode cJ2_getChar_3b067 30 = .ok (.ishl, 1) := dop_120 (dn_w dw214_1 14 rfl)
theorem dJ2_getChar_3b067_31 : decode cJ2_getChar_3b067 31 = .ok (.istore_n 1, 1) := dop_60 (dn_w dw214_1 15 rfl)
theorem dJ2_getChar_3b067_32 : decode cJ2_getChar_3b067 32 = .ok (.aload_n 0, 1) := dop_42 (dn_w dw214_2 0 rfl)
theorem dJ2_getChar_3b067_33 : decode cJ2_getChar_3b067 33 = .ok (.iload_n 1, 1) := dop_27 (dn_w dw214_2 1 rfl)
theorem dJ2_getChar_3b067_34 : decode cJ2_getChar_3b067 34 = .ok (.iinc 1 1, 3) := dop_132 (dn_w dw214_2 2 rfl) rfl
theorem dJ2_getChar_3b067_37 : decode cJ2_getChar_3b067 37 = .ok (.baload, 1) := dop_51 (dn_w dw214_2 5 rfl)
theorem dJ2_getChar_3b067_38 : decode cJ2_getChar_3b067 38 = .ok (.sipush 255, 3) := dop_17 (dn_w dw214_2 6 rfl) rfl
theorem dJ2_getChar_3b067_41 : decode cJ2_getChar_3b067 41 = .ok (.iand, 1) := dop_126 (dn_w dw214_2 9 rfl)
theorem dJ2_getChar_3b067_42 : decode cJ2_getChar_3b067 42 = .ok (.getstatic 59, 3) := dop_178 (dn_w dw214_2 10 rfl) rfl
theorem dJ2_getChar_3b067_45 : decode cJ2_getChar_3b067 45 = .ok (.ishl, 1) := dop_120 (dn_w dw214_2 13 rfl)
theorem dJ2_getChar_3b067_46 : decode cJ2_getChar_3b067 46 = .ok (.aload_n 0, 1) := dop_42 (dn_w dw214_2 14 rfl)
theorem dJ2_getChar_3b067_47 : decode cJ2_getChar_3b067 47 = .ok (.iload_n 1, 1) := dop_27 (dn_w dw214_2 15 rfl)
theorem dJ2_getChar_3b067_48 : decode cJ2_getChar_3b067 48 = .ok (.baload, 1) := dop_51 (dn_w dw214_3 0 rfl)
theorem dJ2_getChar_3b067_49 : decode cJ2_getChar_3b067 49 = .ok (.sipush 255, 3) := dop_17 (dn_w dw214_3 1 rfl) rfl
theorem dJ2_getChar_3b067_52 : decode cJ2_getChar_3b067 52 = .ok (.iand, 1) := dop_126 (dn_w dw214_3 4 rfl)
theorem dJ2_getChar_3b067_53 : decode cJ2_getChar_3b067 53 = .ok (.getstatic 63, 3) := dop_178 (dn_w dw214_3 5 rfl) rfl
theorem dJ2_getChar_3b067_56 : decode cJ2_getChar_3b067 56 = .ok (.ishl, 1) := dop_120 (dn_w dw214_3 8 rfl)
theorem dJ2_getChar_3b067_57 : decode cJ2_getChar_3b067 57 = .ok (.ior, 1) := dop_128 (dn_w dw214_3 9 rfl)
theorem dJ2_getChar_3b067_58 : decode cJ2_getChar_3b067 58 = .ok (.i2c, 1) := dop_146 (dn_w dw214_3 10 rfl)
theorem dJ2_getChar_3b067_59 : decode cJ2_getChar_3b067 59 = .ok (.ireturn, 1) := dop_172 (dn_w dw214_3 11 rfl)
noncomputable def dt215_0 : List Nat := 42 :: 190 :: 4 :: 122 :: 172 :: []
theorem dw215_0 : dn cJ2_length_9d52b 0 = dt215_0 := by decide +kernel
theorem dJ2_length_9d52b_0 : decode cJ2_length_9d52b 0 = .ok (.aload_n 0, 1) := dop_42 (dn_w dw215_0 0 rfl)
theorem dJ2_length_9d52b_1 : decode cJ2_length_9d52b 1 = .ok (.arraylength, 1) := dop_190 (dn_w dw215_0 1 rfl)
theorem dJ2_length_9d52b_2 : decode cJ2_length_9d52b 2 = .ok (.iconst 1, 1) := dop_4 (dn_w dw215_0 2 rfl)
theorem dJ2_length_9d52b_3 : decode cJ2_length_9d52b 3 = .ok (.ishr, 1) := dop_122 (dn_w dw215_0 3 rfl)
theorem dJ2_length_9d52b_4 : decode cJ2_length_9d52b 4 = .ok (.ireturn, 1) := dop_172 (dn_w dw215_0 4 rfl)
noncomputable def dt216_0 : List Nat := 27 :: 42 :: 184 :: 0 :: 67 :: 42 :: 27 :: 184 :: 0 :: 71 :: 172 :: []
theorem dw216_0 : dn cJ2_charAt_3b067 0 = dt216_0 := by decide +kernel
theorem dJ2_charAt_3b067_0 : decode cJ2_charAt_3b067 0 = .ok (.iload_n 1, 1) := dop_27 (dn_w dw216_0 0 rfl)
theorem dJ2_charAt_3b067_1 : decode cJ2_charAt_3b067 1 = .ok (.aload_n 0, 1) := dop_42 (dn_w dw216_0 1 rfl)
theorem dJ2_charAt_3b067_2 : decode cJ2_charAt_3b067 2 = .ok (.invokestatic 67, 3) := dop_184 (dn_w dw216_0 2 rfl) rfl
theorem dJ2_charAt_3b067_5 : decode cJ2_charAt_3b067 5 = .ok (.aload_n 0, 1) := dop_42 (dn_w dw216_0 5 rfl)
theorem dJ2_charAt_3b067_6 : decode cJ2_charAt_3b067 6 = .ok (.iload_n 1, 1) := dop_27 (dn_w dw216_0 6 rfl)
theorem dJ2_charAt_3b067_7 : decode cJ2_charAt_3b067 7 = .ok (.invokestatic 71, 3) := dop_184 (dn_w dw216_0 7 rfl) rfl
theorem dJ2_charAt_3b067_10 : decode cJ2_charAt_3b067 10 = .ok (.ireturn, 1) := dop_172 (dn_w dw216_0 10 rfl)
noncomputable def dt217_0 : List Nat := 26 :: 43 :: 184 :: 0 :: 48 :: 184 :: 1 :: 158 :: 177 :: []
theorem dw217_0 : dn cJ2_checkIndex_2214a 0 = dt217_0 := by decide +kernel
theorem dJ2_checkIndex_2214a_0 : decode cJ2_checkIndex_2214a 0 = .ok (.iload_n 0, 1) := dop_26 (dn_w dw217_0 0 rfl)
theorem dJ2_checkIndex_2214a_1 : decode cJ2_checkIndex_2214a 1 = .ok (.aload_n 1, 1) := dop_43 (dn_w dw217_0 1 rfl)
theorem dJ2_checkIndex_2214a_2 : decode cJ2_checkIndex_2214a 2 = .ok (.invokestatic 48, 3) := dop_184 (dn_w dw217_0 2 rfl) rfl
theorem dJ2_checkIndex_2214a_5 : decode cJ2_checkIndex_2214a 5 = .ok (.invokestatic 414, 3) := dop_184 (dn_w dw217_0 5 rfl) rfl
theorem dJ2_checkIndex_2214a_8 : decode cJ2_checkIndex_2214a 8 = .ok (.return_, 1) := dop_177 (dn_w dw217_0 8 rfl)
noncomputable def dt218_1 : List Nat := 26 :: 172 :: []
noncomputable def dt218_0 : List Nat := 26 :: 155 :: 0 :: 8 :: 26 :: 27 :: 161 :: 0 :: 10 :: 44 :: 26 :: 27 :: 184 :: 0 :: 95 :: 191 :: dt218_1
theorem dw218_0 : dn cJ3_checkIndex_8e157 0 = dt218_0 := by decide +kernel
theorem dw218_1 : dn cJ3_checkIndex_8e157 16 = dt218_1 := dn_w dw218_0 16 rfl
theorem dJ3_checkIndex_8e157_0 : decode cJ3_checkIndex_8e157 0 = .ok (.iload_n 0, 1) := dop_26 (dn_w dw218_0 0 rfl)
theorem dJ3_checkIndex_8e157_1 : decode cJ3_checkIndex_8e157 1 = .ok (.ifCond .lt 8, 3) := dop_155 (dn_w dw218_0 1 rfl) rfl
theorem dJ3_checkIndex_8e157_4 : decode cJ3_checkIndex_8e157 4 = .ok (.iload_n 0, 1) := dop_26 (dn_w dw218_0 4 rfl)
theorem dJ3_checkIndex_8e157_5 : decode cJ3_checkIndex_8e157 5 = .ok (.iload_n 1, 1) := dop_27 (dn_w dw218_0 5 rfl)
theorem dJ3_checkIndex_8e157_6 : decode cJ3_checkIndex_8e157 6 = .ok (.if_icmp .lt 10, 3) := dop_161 (dn_w dw218_0 6 rfl) rfl
theorem dJ3_checkIndex_8e157_9 : decode cJ3_checkIndex_8e157 9 = .ok (.aload_n 2, 1) := dop_44 (dn_w dw218_0 9 rfl)
theorem dJ3_checkIndex_8e157_10 : decode cJ3_checkIndex_8e157 10 = .ok (.iload_n 0, 1) := dop_26 (dn_w dw218_0 10 rfl)
theorem dJ3_checkIndex_8e157_11 : decode cJ3_checkIndex_8e157 11 = .ok (.iload_n 1, 1) := dop_27 (dn_w dw218_0 11 rfl)
theorem dJ3_checkIndex_8e157_12 : decode cJ3_checkIndex_8e157 12 = .ok (.invokestatic 95, 3) := dop_184 (dn_w dw218_0 12 rfl) rfl
theorem dJ3_checkIndex_8e157_15 : decode cJ3_checkIndex_8e157 15 = .ok (.athrow, 1) := dop_191 (dn_w dw218_0 15 rfl)
theorem dJ3_checkIndex_8e157_16 : decode cJ3_checkIndex_8e157 16 = .ok (.iload_n 0, 1) := dop_26 (dn_w dw218_1 0 rfl)
theorem dJ3_checkIndex_8e157_17 : decode cJ3_checkIndex_8e157 17 = .ok (.ireturn, 1) := dop_172 (dn_w dw218_1 1 rfl)
