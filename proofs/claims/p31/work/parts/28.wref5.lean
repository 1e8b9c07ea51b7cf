def rmX9_isWord : Room := { frames := 0, cells := 0, slots := 0, locals := 0 }
theorem hd_X9_isWord : yX9_isWord.cls = RX9 ∧ yX9_isWord.cls ≠ "java/lang/invoke/MethodHandle" ∧ yX9_isWord.cls ≠ "java/lang/invoke/VarHandle" ∧ (parseMethodDescriptor yX9_isWord.desc).map (fun d => d.parameters.length) = some 1 := by decide +kernel
set_option maxHeartbeats 4000000 in
set_option maxRecDepth 100000 in
theorem c_X9_isWord (l : Launch) (D : va_G) (g : Nat → ClassId) (b : Nat → Nat) (I : Nat → Int32) (W : Int64) (n p0 t q mm bd : Nat)  (w0 : Int64) (hn : n ≤ 8) (hp : p0 = 0 ∨ p0 = 25) (ht : t ≤ 240) (hq0 : q ≤ 20) (hmm : mm ≤ 20) (hbd : bd ≤ 30) : Ci l yX9_isWord (WW yX9_isWord cX9_isWord 3 (some FieldType.boolean)) rmX9_isWord D vwCl (TY g) [.ref (b 0), .long w0] [(b 0, .inr (9, [.int (nI n), .ref (b 1), .ref (b 2), .int (nI p0), .ref (b 3), .ref (b 4), .ref (b 5), .ref (b 6), .ref (b 7), .ref (b 8), .int (I 10), .ref (b 9), .int (nI t), .int (I 13), .int (I 14), .int (I 15), .long W, .int (I 17), .int (I 18), .int (I 19), .int (I 20), .ref (b 10), .ref (b 11), .ref (b 12), .ref (b 13), .ref (b 14), .ref (b 15), .int (nI q), .int (nI mm), .ref (b 16), .ref (b 17), .ref (b 18), .ref (b 19), .ref (b 20), .ref (b 21), .int (I 35), .int (I 36), .int (I 37), .ref (b 22), .int (nI bd), .int (I 40), .int (I 41), .ref (b 23), .int (I 43), .ref (b 24)]))] (fun r u => u = [(b 0, .inr (9, [.int (nI n), .ref (b 1), .ref (b 2), .int (nI p0), .ref (b 3), .ref (b 4), .ref (b 5), .ref (b 6), .ref (b 7), .ref (b 8), .int (I 10), .ref (b 9), .int (nI t), .int (I 13), .int (I 14), .int (I 15), .long W, .int (I 17), .int (I 18), .int (I 19), .int (I 20), .ref (b 10), .ref (b 11), .ref (b 12), .ref (b 13), .ref (b 14), .ref (b 15), .int (nI q), .int (nI mm), .ref (b 16), .ref (b 17), .ref (b 18), .ref (b 19), .ref (b 20), .ref (b 21), .int (I 35), .int (I 36), .int (I 37), .ref (b 22), .int (nI bd), .int (I 40), .int (I 41), .ref (b 23), .int (I 43), .ref (b 24)]))]) := by
  refine ci_in (by decide) (Nat.le_of_ble_eq_true rfl) (a0 := [b 0]) rfl (fun p e s m args below meth c A Q hQ B hr hsc => ?_)
  refine s_aload_n B dX9_isWord_0 rfl 0 rfl ?_
  refine s_get (T := TX9) B inX9 0 rfl rfl 13 (Nat.le_of_ble_eq_true rfl) fl_X9_116 rfl rfl dX9_isWord_1 ?_
  refine s_iconst B dX9_isWord_4 ic_1 ?_
  refine s_icmp_ne (tgt := 21) B dX9_isWord_5 rfl (fun h5 => ?_) (fun h5 => ?_)
  · refine s_iconst B dX9_isWord_21 ic_0 ?_
    refine s_zret B hQ hr dX9_isWord_22 rfl rfl ?_
    exact rfl
  · refine s_aload_n B dX9_isWord_8 rfl 0 rfl ?_
    refine s_get (T := TX9) B inX9 0 rfl rfl 16 (Nat.le_of_ble_eq_true rfl) fl_X9_119 rfl rfl dX9_isWord_9 ?_
    refine s_lload_n B dX9_isWord_12 rfl 1 rfl ?_
    refine s_lcmp B dX9_isWord_13 ?_
    refine s_if_ne (tgt := 21) B dX9_isWord_14 rfl (fun h14 => ?_) (fun h14 => ?_)
    · refine s_iconst B dX9_isWord_21 ic_0 ?_
      refine s_zret B hQ hr dX9_isWord_22 rfl rfl ?_
      exact rfl
    · refine s_iconst B dX9_isWord_17 ic_1 ?_
      refine s_goto (tgt := 22) B dX9_isWord_18 rfl ?_
      refine s_zret B hQ hr dX9_isWord_22 rfl rfl ?_
      exact rfl
def rmX9_isMark : Room := { frames := 0, cells := 0, slots := 0, locals := 0 }
theorem hd_X9_isMark : yX9_isMark.cls = RX9 ∧ yX9_isMark.cls ≠ "java/lang/invoke/MethodHandle" ∧ yX9_isMark.cls ≠ "java/lang/invoke/VarHandle" ∧ (parseMethodDescriptor yX9_isMark.desc).map (fun d => d.parameters.length) = some 1 := by decide +kernel
set_option maxHeartbeats 4000000 in
set_option maxRecDepth 100000 in
theorem c_X9_isMark (l : Launch) (D : va_G) (g : Nat → ClassId) (b : Nat → Nat) (I : Nat → Int32) (W : Int64) (n p0 t q mm bd : Nat)  (x0 : Int32) (hn : n ≤ 8) (hp : p0 = 0 ∨ p0 = 25) (ht : t ≤ 240) (hq0 : q ≤ 20) (hmm : mm ≤ 20) (hbd : bd ≤ 30) : Ci l yX9_isMark (WW yX9_isMark cX9_isMark 2 (some FieldType.boolean)) rmX9_isMark D vwCl (TY g) [.ref (b 0), .int x0] [(b 0, .inr (9, [.int (nI n), .ref (b 1), .ref (b 2), .int (nI p0), .ref (b 3), .ref (b 4), .ref (b 5), .ref (b 6), .ref (b 7), .ref (b 8), .int (I 10), .ref (b 9), .int (nI t), .int (I 13), .int (I 14), .int (I 15), .long W, .int (I 17), .int (I 18), .int (I 19), .int (I 20), .ref (b 10), .ref (b 11), .ref (b 12), .ref (b 13), .ref (b 14), .ref (b 15), .int (nI q), .int (nI mm), .ref (b 16), .ref (b 17), .ref (b 18), .ref (b 19), .ref (b 20), .ref (b 21), .int (I 35), .int (I 36), .int (I 37), .ref (b 22), .int (nI bd), .int (I 40), .int (I 41), .ref (b 23), .int (I 43), .ref (b 24)]))] (fun r u => u = [(b 0, .inr (9, [.int (nI n), .ref (b 1), .ref (b 2), .int (nI p0), .ref (b 3), .ref (b 4), .ref (b 5), .ref (b 6), .ref (b 7), .ref (b 8), .int (I 10), .ref (b 9), .int (nI t), .int (I 13), .int (I 14), .int (I 15), .long W, .int (I 17), .int (I 18), .int (I 19), .int (I 20), .ref (b 10), .ref (b 11), .ref (b 12), .ref (b 13), .ref (b 14), .ref (b 15), .int (nI q), .int (nI mm), .ref (b 16), .ref (b 17), .ref (b 18), .ref (b 19), .ref (b 20), .ref (b 21), .int (I 35), .int (I 36), .int (I 37), .ref (b 22), .int (nI bd), .int (I 40), .int (I 41), .ref (b 23), .int (I 43), .ref (b 24)]))]) := by
  refine ci_in (by decide) (Nat.le_of_ble_eq_true rfl) (a0 := [b 0]) rfl (fun p e s m args below meth c A Q hQ B hr hsc => ?_)
  refine s_aload_n B dX9_isMark_0 rfl 0 rfl ?_
  refine s_get (T := TX9) B inX9 0 rfl rfl 13 (Nat.le_of_ble_eq_true rfl) fl_X9_116 rfl rfl dX9_isMark_1 ?_
  refine s_iconst B dX9_isMark_4 ic_3 ?_
  refine s_icmp_ne (tgt := 20) B dX9_isMark_5 rfl (fun h5 => ?_) (fun h5 => ?_)
  · refine s_iconst B dX9_isMark_20 ic_0 ?_
    refine s_zret B hQ hr dX9_isMark_21 rfl rfl ?_
    exact rfl
  · refine s_aload_n B dX9_isMark_8 rfl 0 rfl ?_
    refine s_get (T := TX9) B inX9 0 rfl rfl 17 (Nat.le_of_ble_eq_true rfl) fl_X9_123 rfl rfl dX9_isMark_9 ?_
    refine s_iload_n B dX9_isMark_12 rfl 1 rfl ?_
    refine s_icmp_ne (tgt := 20) B dX9_isMark_13 rfl (fun h13 => ?_) (fun h13 => ?_)
    · refine s_iconst B dX9_isMark_20 ic_0 ?_
      refine s_zret B hQ hr dX9_isMark_21 rfl rfl ?_
      exact rfl
    · refine s_iconst B dX9_isMark_16 ic_1 ?_
      refine s_goto (tgt := 21) B dX9_isMark_17 rfl ?_
      refine s_zret B hQ hr dX9_isMark_21 rfl rfl ?_
      exact rfl
def rmX9_kindHere : Room := { frames := 1, cells := 0, slots := 0, locals := 22 }
theorem hd_X9_kindHere : yX9_kindHere.cls = RX9 ∧ yX9_kindHere.cls ≠ "java/lang/invoke/MethodHandle" ∧ yX9_kindHere.cls ≠ "java/lang/invoke/VarHandle" ∧ (parseMethodDescriptor yX9_kindHere.desc).map (fun d => d.parameters.length) = some 0 := by decide +kernel
set_option maxHeartbeats 4000000 in
set_option maxRecDepth 100000 in
theorem c_X9_kindHere (l : Launch) (D : va_G) (g : Nat → ClassId) (b : Nat → Nat) (I : Nat → Int32) (W : Int64) (n p0 t q mm bd : Nat)  (hn : n ≤ 8) (hp : p0 = 0 ∨ p0 = 25) (ht : t ≤ 240) (hq0 : q ≤ 20) (hmm : mm ≤ 20) (hbd : bd ≤ 30) : Ci l yX9_kindHere (WW yX9_kindHere cX9_kindHere 1 (some FieldType.int)) rmX9_kindHere D vwCl (TY g) [.ref (b 0)] [(b 0, .inr (9, [.int (nI n), .ref (b 1), .ref (b 2), .int (nI p0), .ref (b 3), .ref (b 4), .ref (b 5), .ref (b 6), .ref (b 7), .ref (b 8), .int (I 10), .ref (b 9), .int (nI t), .int (I 13), .int (I 14), .int (I 15), .long W, .int (I 17), .int (I 18), .int (I 19), .int (I 20), .ref (b 10), .ref (b 11), .ref (b 12), .ref (b 13), .ref (b 14), .ref (b 15), .int (nI q), .int (nI mm), .ref (b 16), .ref (b 17), .ref (b 18), .ref (b 19), .ref (b 20), .ref (b 21), .int (I 35), .int (I 36), .int (I 37), .ref (b 22), .int (nI bd), .int (I 40), .int (I 41), .ref (b 23), .int (I 43), .ref (b 24)]))] (fun r u => u = [(b 0, .inr (9, [.int (nI n), .ref (b 1), .ref (b 2), .int (nI p0), .ref (b 3), .ref (b 4), .ref (b 5), .ref (b 6), .ref (b 7), .ref (b 8), .int (I 10), .ref (b 9), .int (nI t), .int (I 13), .int (I 14), .int (I 15), .long W, .int (I 17), .int (I 18), .int (I 19), .int (I 20), .ref (b 10), .ref (b 11), .ref (b 12), .ref (b 13), .ref (b 14), .ref (b 15), .int (nI q), .int (nI mm), .ref (b 16), .ref (b 17), .ref (b 18), .ref (b 19), .ref (b 20), .ref (b 21), .int (I 35), .int (I 36), .int (I 37), .ref (b 22), .int (nI bd), .int (I 40), .int (I 41), .ref (b 23), .int (I 43), .ref (b 24)]))]) := by
  refine ci_in (by decide) (Nat.le_of_ble_eq_true rfl) (a0 := [b 0]) rfl (fun p e s m args below meth c A Q hQ B hr hsc => ?_)
  refine s_aload_n B dX9_kindHere_0 rfl 0 rfl ?_
  refine s_ldc2 B cn_X9_132 dX9_kindHere_1 ?_
  refine s_callVi B hsc (c_X9_isWord l D g b I W n p0 t q mm bd 1758676 (by omega) (by omega) (by omega) (by omega) (by omega) (by omega)) (gw_V ml_X9_134 im_yX9_isWord se_yX9_isWord ini_RX9 co_yX9_isWord) hd_X9_isWord rfl rfl ⟨(Nat.le_of_ble_eq_true rfl), (Nat.le_of_ble_eq_true rfl)⟩ [0] [0, 1, 2, 3, 4] rfl rfl rfl (ci := 9) (q0 := 0) rfl rfl rfl rfl rfl (Nat.le_of_ble_eq_true rfl) dX9_kindHere_4 (fun r_1 u_2 hpo => ?_)
  subst hpo
  refine s_ws (ws' := [(b 0, .inr (9, [.int (nI n), .ref (b 1), .ref (b 2), .int (nI p0), .ref (b 3), .ref (b 4), .ref (b 5), .ref (b 6), .ref (b 7), .ref (b 8), .int (I 10), .ref (b 9), .int (nI t), .int (I 13), .int (I 14), .int (I 15), .long W, .int (I 17), .int (I 18), .int (I 19), .int (I 20), .ref (b 10), .ref (b 11), .ref (b 12), .ref (b 13), .ref (b 14), .ref (b 15), .int (nI q), .int (nI mm), .ref (b 16), .ref (b 17), .ref (b 18), .ref (b 19), .ref (b 20), .ref (b 21), .int (I 35), .int (I 36), .int (I 37), .ref (b 22), .int (nI bd), .int (I 40), .int (I 41), .ref (b 23), .int (I 43), .ref (b 24)]))]) rfl ?_
  refine s_if_eq (tgt := 14) B dX9_kindHere_7 rfl (fun h7 => ?_) (fun h7 => ?_)
  · refine s_aload_n B dX9_kindHere_14 rfl 0 rfl ?_
    refine s_ldc2 B cn_X9_138 dX9_kindHere_15 ?_
    refine s_callVi B hsc (c_X9_isWord l D g b I W n p0 t q mm bd 220610 (by omega) (by omega) (by omega) (by omega) (by omega) (by omega)) (gw_V ml_X9_134 im_yX9_isWord se_yX9_isWord ini_RX9 co_yX9_isWord) hd_X9_isWord rfl rfl ⟨(Nat.le_of_ble_eq_true rfl), (Nat.le_of_ble_eq_true rfl)⟩ [0] [0, 1, 2, 3, 4] rfl rfl rfl (ci := 9) (q0 := 0) rfl rfl rfl rfl rfl (Nat.le_of_ble_eq_true rfl) dX9_kindHere_18 (fun r_3 u_4 hpo => ?_)
    subst hpo
    refine s_ws (ws' := [(b 0, .inr (9, [.int (nI n), .ref (b 1), .ref (b 2), .int (nI p0), .ref (b 3), .ref (b 4), .ref (b 5), .ref (b 6), .ref (b 7), .ref (b 8), .int (I 10), .ref (b 9), .int (nI t), .int (I 13), .int (I 14), .int (I 15), .long W, .int (I 17), .int (I 18), .int (I 19), .int (I 20), .ref (b 10), .ref (b 11), .ref (b 12), .ref (b 13), .ref (b 14), .ref (b 15), .int (nI q), .int (nI mm), .ref (b 16), .ref (b 17), .ref (b 18), .ref (b 19), .ref (b 20), .ref (b 21), .int (I 35), .int (I 36), .int (I 37), .ref (b 22), .int (nI bd), .int (I 40), .int (I 41), .ref (b 23), .int (I 43), .ref (b 24)]))]) rfl ?_
    refine s_if_eq (tgt := 28) B dX9_kindHere_21 rfl (fun h21 => ?_) (fun h21 => ?_)
    · refine s_aload_n B dX9_kindHere_28 rfl 0 rfl ?_
      refine s_ldc2 B cn_X9_140 dX9_kindHere_29 ?_
      refine s_callVi B hsc (c_X9_isWord l D g b I W n p0 t q mm bd 6897 (by omega) (by omega) (by omega) (by omega) (by omega) (by omega)) (gw_V ml_X9_134 im_yX9_isWord se_yX9_isWord ini_RX9 co_yX9_isWord) hd_X9_isWord rfl rfl ⟨(Nat.le_of_ble_eq_true rfl), (Nat.le_of_ble_eq_true rfl)⟩ [0] [0, 1, 2, 3, 4] rfl rfl rfl (ci := 9) (q0 := 0) rfl rfl rfl rfl rfl (Nat.le_of_ble_eq_true rfl) dX9_kindHere_32 (fun r_5 u_6 hpo => ?_)
      subst hpo
      refine s_ws (ws' := [(b 0, .inr (9, [.int (nI n), .ref (b 1), .ref (b 2), .int (nI p0), .ref (b 3), .ref (b 4), .ref (b 5), .ref (b 6), .ref (b 7), .ref (b 8), .int (I 10), .ref (b 9), .int (nI t), .int (I 13), .int (I 14), .int (I 15), .long W, .int (I 17), .int (I 18), .int (I 19), .int (I 20), .ref (b 10), .ref (b 11), .ref (b 12), .ref (b 13), .ref (b 14), .ref (b 15), .int (nI q), .int (nI mm), .ref (b 16), .ref (b 17), .ref (b 18), .ref (b 19), .ref (b 20), .ref (b 21), .int (I 35), .int (I 36), .int (I 37), .ref (b 22), .int (nI bd), .int (I 40), .int (I 41), .ref (b 23), .int (I 43), .ref (b 24)]))]) rfl ?_
      refine s_if_eq (tgt := 42) B dX9_kindHere_35 rfl (fun h35 => ?_) (fun h35 => ?_)
      · refine s_aload_n B dX9_kindHere_42 rfl 0 rfl ?_
        refine s_ldc2 B cn_X9_142 dX9_kindHere_43 ?_
        refine s_callVi B hsc (c_X9_isWord l D g b I W n p0 t q mm bd 296958548 (by omega) (by omega) (by omega) (by omega) (by omega) (by omega)) (gw_V ml_X9_134 im_yX9_isWord se_yX9_isWord ini_RX9 co_yX9_isWord) hd_X9_isWord rfl rfl ⟨(Nat.le_of_ble_eq_true rfl), (Nat.le_of_ble_eq_true rfl)⟩ [0] [0, 1, 2, 3, 4] rfl rfl rfl (ci := 9) (q0 := 0) rfl rfl rfl rfl rfl (Nat.le_of_ble_eq_true rfl) dX9_kindHere_46 (fun r_7 u_8 hpo => ?_)
        subst hpo
        refine s_ws (ws' := [(b 0, .inr (9, [.int (nI n), .ref (b 1), .ref (b 2), .int (nI p0), .ref (b 3), .ref (b 4), .ref (b 5), .ref (b 6), .ref (b 7), .ref (b 8), .int (I 10), .ref (b 9), .int (nI t), .int (I 13), .int (I 14), .int (I 15), .long W, .int (I 17), .int (I 18), .int (I 19), .int (I 20), .ref (b 10), .ref (b 11), .ref (b 12), .ref (b 13), .ref (b 14), .ref (b 15), .int (nI q), .int (nI mm), .ref (b 16), .ref (b 17), .ref (b 18), .ref (b 19), .ref (b 20), .ref (b 21), .int (I 35), .int (I 36), .int (I 37), .ref (b 22), .int (nI bd), .int (I 40), .int (I 41), .ref (b 23), .int (I 43), .ref (b 24)]))]) rfl ?_
        refine s_if_eq (tgt := 56) B dX9_kindHere_49 rfl (fun h49 => ?_) (fun h49 => ?_)
        · refine s_aload_n B dX9_kindHere_56 rfl 0 rfl ?_
          refine s_ldc2 B cn_X9_144 dX9_kindHere_57 ?_
          refine s_callVi B hsc (c_X9_isWord l D g b I W n p0 t q mm bd 21569193884 (by omega) (by omega) (by omega) (by omega) (by omega) (by omega)) (gw_V ml_X9_134 im_yX9_isWord se_yX9_isWord ini_RX9 co_yX9_isWord) hd_X9_isWord rfl rfl ⟨(Nat.le_of_ble_eq_true rfl), (Nat.le_of_ble_eq_true rfl)⟩ [0] [0, 1, 2, 3, 4] rfl rfl rfl (ci := 9) (q0 := 0) rfl rfl rfl rfl rfl (Nat.le_of_ble_eq_true rfl) dX9_kindHere_60 (fun r_9 u_10 hpo => ?_)
          subst hpo
          refine s_ws (ws' := [(b 0, .inr (9, [.int (nI n), .ref (b 1), .ref (b 2), .int (nI p0), .ref (b 3), .ref (b 4), .ref (b 5), .ref (b 6), .ref (b 7), .ref (b 8), .int (I 10), .ref (b 9), .int (nI t), .int (I 13), .int (I 14), .int (I 15), .long W, .int (I 17), .int (I 18), .int (I 19), .int (I 20), .ref (b 10), .ref (b 11), .ref (b 12), .ref (b 13), .ref (b 14), .ref (b 15), .int (nI q), .int (nI mm), .ref (b 16), .ref (b 17), .ref (b 18), .ref (b 19), .ref (b 20), .ref (b 21), .int (I 35), .int (I 36), .int (I 37), .ref (b 22), .int (nI bd), .int (I 40), .int (I 41), .ref (b 23), .int (I 43), .ref (b 24)]))]) rfl ?_
          refine s_if_eq (tgt := 70) B dX9_kindHere_63 rfl (fun h63 => ?_) (fun h63 => ?_)
          · refine s_aload_n B dX9_kindHere_70 rfl 0 rfl ?_
            refine s_ldc2 B cn_X9_146 dX9_kindHere_71 ?_
            refine s_callVi B hsc (c_X9_isWord l D g b I W n p0 t q mm bd 32057216971 (by omega) (by omega) (by omega) (by omega) (by omega) (by omega)) (gw_V ml_X9_134 im_yX9_isWord se_yX9_isWord ini_RX9 co_yX9_isWord) hd_X9_isWord rfl rfl ⟨(Nat.le_of_ble_eq_true rfl), (Nat.le_of_ble_eq_true rfl)⟩ [0] [0, 1, 2, 3, 4] rfl rfl rfl (ci := 9) (q0 := 0) rfl rfl rfl rfl rfl (Nat.le_of_ble_eq_true rfl) dX9_kindHere_74 (fun r_11 u_12 hpo => ?_)
            subst hpo
            refine s_ws (ws' := [(b 0, .inr (9, [.int (nI n), .ref (b 1), .ref (b 2), .int (nI p0), .ref (b 3), .ref (b 4), .ref (b 5), .ref (b 6), .ref (b 7), .ref (b 8), .int (I 10), .ref (b 9), .int (nI t), .int (I 13), .int (I 14), .int (I 15), .long W, .int (I 17), .int (I 18), .int (I 19), .int (I 20), .ref (b 10), .ref (b 11), .ref (b 12), .ref (b 13), .ref (b 14), .ref (b 15), .int (nI q), .int (nI mm), .ref (b 16), .ref (b 17), .ref (b 18), .ref (b 19), .ref (b 20), .ref (b 21), .int (I 35), .int (I 36), .int (I 37), .ref (b 22), .int (nI bd), .int (I 40), .int (I 41), .ref (b 23), .int (I 43), .ref (b 24)]))]) rfl ?_
            refine s_if_eq (tgt := 84) B dX9_kindHere_77 rfl (fun h77 => ?_) (fun h77 => ?_)
            · refine s_iconst B dX9_kindHere_84 ic_m1 ?_
              refine s_iret B hQ hr dX9_kindHere_85 rfl ?_
              exact rfl
            · refine s_iconst B dX9_kindHere_80 ic_5 ?_
              refine s_goto (tgt := 85) B dX9_kindHere_81 rfl ?_
              refine s_iret B hQ hr dX9_kindHere_85 rfl ?_
              exact rfl
          · refine s_iconst B dX9_kindHere_66 ic_4 ?_
            refine s_goto (tgt := 85) B dX9_kindHere_67 rfl ?_
            refine s_iret B hQ hr dX9_kindHere_85 rfl ?_
            exact rfl
        · refine s_iconst B dX9_kindHere_52 ic_3 ?_
          refine s_goto (tgt := 85) B dX9_kindHere_53 rfl ?_
          refine s_iret B hQ hr dX9_kindHere_85 rfl ?_
          exact rfl
      · refine s_iconst B dX9_kindHere_38 ic_2 ?_
        refine s_goto (tgt := 85) B dX9_kindHere_39 rfl ?_
        refine s_iret B hQ hr dX9_kindHere_85 rfl ?_
        exact rfl
    · refine s_iconst B dX9_kindHere_24 ic_1 ?_
      refine s_goto (tgt := 85) B dX9_kindHere_25 rfl ?_
      refine s_iret B hQ hr dX9_kindHere_85 rfl ?_
      exact rfl
  · refine s_iconst B dX9_kindHere_10 ic_0 ?_
    refine s_goto (tgt := 85) B dX9_kindHere_11 rfl ?_
    refine s_iret B hQ hr dX9_kindHere_85 rfl ?_
    exact rfl
def rmX9_wantNumber : Room := { frames := 3, cells := 0, slots := 0, locals := 63 }
theorem hd_X9_wantNumber : yX9_wantNumber.cls = RX9 ∧ yX9_wantNumber.cls ≠ "java/lang/invoke/MethodHandle" ∧ yX9_wantNumber.cls ≠ "java/lang/invoke/VarHandle" ∧ (parseMethodDescriptor yX9_wantNumber.desc).map (fun d => d.parameters.length) = some 2 := by decide +kernel
set_option maxHeartbeats 4000000 in
set_option maxRecDepth 100000 in
theorem c_X9_wantNumber (l : Launch) (D : va_G) (g : Nat → ClassId) (b : Nat → Nat) (I : Nat → Int32) (W : Int64) (n p0 t q mm bd : Nat) (bg : Nat) (te : Nat) (so : Int32) (gd : Int32) (a_tape : Nat → Int32) (x0 : Int32) (y0 : Int32) (hn : n ≤ 8) (hp : p0 = 0 ∨ p0 = 25) (ht : t ≤ 240) (hq0 : q ≤ 20) (hmm : mm ≤ 20) (hbd : bd ≤ 30) (hpre0 : bg ≤ te ∧ te ≤ t ∧ (so = 0 ∨ bg < te)) : Ci l yX9_wantNumber (WW yX9_wantNumber cX9_wantNumber 4 (some FieldType.int)) rmX9_wantNumber D vwCl (TY g) [.ref (b 0), .int x0, .int y0] [(b 0, .inr (9, [.int (nI n), .ref (b 1), .ref (b 2), .int (nI p0), .ref (b 3), .ref (b 4), .ref (b 5), .ref (b 6), .ref (b 7), .ref (b 8), .int (I 10), .ref (b 9), .int (nI t), .int so, .int (nI bg), .int (nI te), .long W, .int (I 17), .int gd, .int (I 19), .int (I 20), .ref (b 10), .ref (b 11), .ref (b 12), .ref (b 13), .ref (b 14), .ref (b 15), .int (nI q), .int (nI mm), .ref (b 16), .ref (b 17), .ref (b 18), .ref (b 19), .ref (b 20), .ref (b 21), .int (I 35), .int (I 36), .int (I 37), .ref (b 22), .int (nI bd), .int (I 40), .int (I 41), .ref (b 23), .int (I 43), .ref (b 24)])), (b 9, .inl (g 0, 240, .inl a_tape))] (fun r u => ∃ (good' : Int32) (begins' : Nat) (tokenEnds' : Nat) (sort' : Int32) (word' : Int64) (value' : Int32), (begins' ≤ tokenEnds' ∧ tokenEnds' ≤ t ∧ (sort' = 0 ∨ begins' < tokenEnds')) ∧ (bg ≤ begins') ∧ (good' = 0 ∨ (¬ gd = 0 ∧ ¬ r < x0 ∧ ¬ y0 < r ∧ te ≤ begins')) ∧ u = [(b 0, .inr (9, [.int (nI n), .ref (b 1), .ref (b 2), .int (nI p0), .ref (b 3), .ref (b 4), .ref (b 5), .ref (b 6), .ref (b 7), .ref (b 8), .int (I 10), .ref (b 9), .int (nI t), .int sort', .int (nI begins'), .int (nI tokenEnds'), .long word', .int value', .int good', .int (I 19), .int (I 20), .ref (b 10), .ref (b 11), .ref (b 12), .ref (b 13), .ref (b 14), .ref (b 15), .int (nI q), .int (nI mm), .ref (b 16), .ref (b 17), .ref (b 18), .ref (b 19), .ref (b 20), .ref (b 21), .int (I 35), .int (I 36), .int (I 37), .ref (b 22), .int (nI bd), .int (I 40), .int (I 41), .ref (b 23), .int (I 43), .ref (b 24)])), (b 9, .inl (g 0, 240, .inl a_tape))]) := by
  refine ci_in (by decide) (Nat.le_of_ble_eq_true rfl) (a0 := [b 0, b 9]) rfl (fun p e s m args below meth c A Q hQ B hr hsc => ?_)
  have M34 : (bg ≤ te ∧ te ≤ t ∧ (so = 0 ∨ bg < te)) → Sx p l e rmX9_wantNumber s m args below meth c D vwCl A 4 Q 34 [(0, .ref (b 0)), (3, .int (I 17))] [.ref (b 0)] [(b 0, .inr (9, [.int (nI n), .ref (b 1), .ref (b 2), .int (nI p0), .ref (b 3), .ref (b 4), .ref (b 5), .ref (b 6), .ref (b 7), .ref (b 8), .int (I 10), .ref (b 9), .int (nI t), .int so, .int (nI bg), .int (nI te), .long W, .int (I 17), .int gd, .int (I 19), .int (I 20), .ref (b 10), .ref (b 11), .ref (b 12), .ref (b 13), .ref (b 14), .ref (b 15), .int (nI q), .int (nI mm), .ref (b 16), .ref (b 17), .ref (b 18), .ref (b 19), .ref (b 20), .ref (b 21), .int (I 35), .int (I 36), .int (I 37), .ref (b 22), .int (nI bd), .int (I 40), .int (I 41), .ref (b 23), .int (I 43), .ref (b 24)])), (b 9, .inl (g 0, 240, .inl a_tape))] := by
    intro hpre0
    refine s_iconst B dX9_wantNumber_34 ic_0 ?_
    refine s_put (T := TX9) (ws' := [_, _]) B inX9 tyX9_ok nmX9 0 rfl rfl 18 (Nat.le_of_ble_eq_true rfl) fl_X9_148 rfl rfl (by first | rfl | decide) rfl (Nat.le_of_ble_eq_true rfl) rfl dX9_wantNumber_35 ?_
    refine s_aload_n B dX9_wantNumber_38 rfl 0 rfl ?_
    refine s_get (T := TX9) B inX9 0 rfl rfl 18 (Nat.le_of_ble_eq_true rfl) fl_X9_148 rfl rfl dX9_wantNumber_39 ?_
    refine s_if_eq (tgt := 49) B dX9_wantNumber_42 rfl (fun h42 => ?_) (fun h0 => absurd h0 (by decide))
    refine s_iload_n B dX9_wantNumber_49 rfl 1 rfl ?_
    refine s_iret B hQ hr dX9_wantNumber_50 rfl ?_
    exact ⟨0, bg, te, so, W, (I 17), by first | assumption | omega | (clear hQ B hr hsc; grind), by first | assumption | omega | (clear hQ B hr hsc; grind), by first | assumption | omega | (clear hQ B hr hsc; grind), rfl⟩
  refine s_aload_n B dX9_wantNumber_0 rfl 0 rfl ?_
  refine s_get (T := TX9) B inX9 0 rfl rfl 17 (Nat.le_of_ble_eq_true rfl) fl_X9_123 rfl rfl dX9_wantNumber_1 ?_
  refine s_istore_n (lv' := [(3, _), (0, _), (1, _), (2, _)]) B dX9_wantNumber_4 rfl (Nat.le_of_ble_eq_true rfl) rfl ?_
  refine s_aload_n B dX9_wantNumber_5 rfl 1 rfl ?_
  refine s_aload_n B dX9_wantNumber_6 rfl 1 rfl ?_
  refine s_get (T := TX9) B inX9 0 rfl rfl 18 (Nat.le_of_ble_eq_true rfl) fl_X9_148 rfl rfl dX9_wantNumber_7 ?_
  refine s_if_eq (tgt := 34) B dX9_wantNumber_10 rfl (fun h10 => ?_) (fun h10 => ?_)
  · refine s_lv (lv' := [(0, _), (3, _)]) [1, 0] rfl ?_
    exact M34  hpre0
  · refine s_aload_n B dX9_wantNumber_13 rfl 1 rfl ?_
    refine s_get (T := TX9) B inX9 0 rfl rfl 13 (Nat.le_of_ble_eq_true rfl) fl_X9_116 rfl rfl dX9_wantNumber_14 ?_
    refine s_iconst B dX9_wantNumber_17 ic_2 ?_
    refine s_icmp_ne (tgt := 34) B dX9_wantNumber_18 rfl (fun h18 => ?_) (fun h18 => ?_)
    · refine s_lv (lv' := [(0, _), (3, _)]) [1, 0] rfl ?_
      exact M34  hpre0
    · refine s_iload_n B dX9_wantNumber_21 rfl 0 rfl ?_
      refine s_iload_n B dX9_wantNumber_22 rfl 2 rfl ?_
      refine s_iload_n B dX9_wantNumber_23 rfl 3 rfl ?_
      refine s_callSi B hsc (c_X9_in l D g (I 17) x0 y0) (gw_S ml_X9_87 sm_yX9_in ini_RX9 co_yX9_in) hd_X9_in rfl rfl ⟨(Nat.le_of_ble_eq_true rfl), (Nat.le_of_ble_eq_true rfl)⟩ [] [0, 1, 2, 3, 4] rfl rfl rfl rfl rfl (Nat.le_of_ble_eq_true rfl) dX9_wantNumber_24 (fun r_1 u_2 hpo => ?_)
      obtain ⟨rfl, rfl⟩ := hpo
      refine s_st (st' := [.int (if ¬ (I 17) < x0 ∧ ¬ y0 < (I 17) then 1 else 0), .ref (b 0)]) rfl ?_
      refine s_ws (ws' := [(b 0, .inr (9, [.int (nI n), .ref (b 1), .ref (b 2), .int (nI p0), .ref (b 3), .ref (b 4), .ref (b 5), .ref (b 6), .ref (b 7), .ref (b 8), .int (I 10), .ref (b 9), .int (nI t), .int so, .int (nI bg), .int (nI te), .long W, .int (I 17), .int gd, .int (I 19), .int (I 20), .ref (b 10), .ref (b 11), .ref (b 12), .ref (b 13), .ref (b 14), .ref (b 15), .int (nI q), .int (nI mm), .ref (b 16), .ref (b 17), .ref (b 18), .ref (b 19), .ref (b 20), .ref (b 21), .int (I 35), .int (I 36), .int (I 37), .ref (b 22), .int (nI bd), .int (I 40), .int (I 41), .ref (b 23), .int (I 43), .ref (b 24)])), (b 9, .inl (g 0, 240, .inl a_tape))]) rfl ?_
      refine s_bif_eq (tgt := 34) B dX9_wantNumber_27 rfl (fun h27 => ?_) (fun h27 => ?_)
      · refine s_lv (lv' := [(0, _), (3, _)]) [1, 0] rfl ?_
        exact M34  hpre0
      · refine s_iconst B dX9_wantNumber_30 ic_1 ?_
        refine s_goto (tgt := 35) B dX9_wantNumber_31 rfl ?_
        refine s_put (T := TX9) (ws' := [_, _]) B inX9 tyX9_ok nmX9 0 rfl rfl 18 (Nat.le_of_ble_eq_true rfl) fl_X9_148 rfl rfl (by first | rfl | decide) rfl (Nat.le_of_ble_eq_true rfl) rfl dX9_wantNumber_35 ?_
        refine s_aload_n B dX9_wantNumber_38 rfl 1 rfl ?_
        refine s_get (T := TX9) B inX9 0 rfl rfl 18 (Nat.le_of_ble_eq_true rfl) fl_X9_148 rfl rfl dX9_wantNumber_39 ?_
        refine s_if_eq (tgt := 49) B dX9_wantNumber_42 rfl (fun h0 => absurd h0 (by decide)) (fun h42 => ?_)
        refine s_aload_n B dX9_wantNumber_45 rfl 1 rfl ?_
        refine s_callVv B hsc (c_X9_advance l D g b (upd (upd (upd I 13 so) 14 (nI bg)) 18 1) W n p0 t q mm bd te a_tape (by omega) (by omega) (by omega) (by omega) (by omega) (by omega) (by first | assumption | (intro h9; first | assumption | exact absurd h9 (by decide)) | omega | rfl | (refine ⟨_, ?_, by assumption⟩; omega) | (clear hQ B hr hsc; grind))) (gw_V ml_X9_152 im_yX9_advance se_yX9_advance ini_RX9 co_yX9_advance) hd_X9_advance rfl rfl ⟨(Nat.le_of_ble_eq_true rfl), (Nat.le_of_ble_eq_true rfl)⟩ [0, 1] [0, 1, 2, 3, 4] rfl rfl rfl (ci := 9) (q0 := 0) rfl rfl rfl rfl rfl (Nat.le_of_ble_eq_true rfl) dX9_wantNumber_46 (fun u_4 hpo => ?_)
        obtain ⟨begins_5, te_6, v_7, w_8, v_9, hf_10, rfl⟩ := hpo
        refine s_ws (ws' := [(b 0, .inr (9, [.int (nI n), .ref (b 1), .ref (b 2), .int (nI p0), .ref (b 3), .ref (b 4), .ref (b 5), .ref (b 6), .ref (b 7), .ref (b 8), .int (I 10), .ref (b 9), .int (nI t), .int v_7, .int (nI begins_5), .int (nI te_6), .long w_8, .int v_9, .int 1, .int (I 19), .int (I 20), .ref (b 10), .ref (b 11), .ref (b 12), .ref (b 13), .ref (b 14), .ref (b 15), .int (nI q), .int (nI mm), .ref (b 16), .ref (b 17), .ref (b 18), .ref (b 19), .ref (b 20), .ref (b 21), .int (I 35), .int (I 36), .int (I 37), .ref (b 22), .int (nI bd), .int (I 40), .int (I 41), .ref (b 23), .int (I 43), .ref (b 24)])), (b 9, .inl (g 0, 240, .inl a_tape))]) rfl ?_
        refine s_iload_n B dX9_wantNumber_49 rfl 0 rfl ?_
        refine s_iret B hQ hr dX9_wantNumber_50 rfl ?_
        exact ⟨1, begins_5, te_6, v_7, w_8, v_9, by first | assumption | omega | (clear hQ B hr hsc; grind), by first | assumption | omega | (clear hQ B hr hsc; grind), by first | assumption | omega | (clear hQ B hr hsc; grind), rfl⟩
def rmX9_wantEnd : Room := { frames := 3, cells := 0, slots := 0, locals := 63 }
theorem hd_X9_wantEnd : yX9_wantEnd.cls = RX9 ∧ yX9_wantEnd.cls ≠ "java/lang/invoke/MethodHandle" ∧ yX9_wantEnd.cls ≠ "java/lang/invoke/VarHandle" ∧ (parseMethodDescriptor yX9_wantEnd.desc).map (fun d => d.parameters.length) = some 0 := by decide +kernel
set_option maxHeartbeats 4000000 in
set_option maxRecDepth 100000 in
theorem c_X9_wantEnd (l : Launch) (D : va_G) (g : Nat → ClassId) (b : Nat → Nat) (I : Nat → Int32) (W : Int64) (n p0 t q mm bd : Nat) (bg : Nat) (te : Nat) (so : Int32) (gd : Int32) (a_tape : Nat → Int32) (hn : n ≤ 8) (hp : p0 = 0 ∨ p0 = 25) (ht : t ≤ 240) (hq0 : q ≤ 20) (hmm : mm ≤ 20) (hbd : bd ≤ 30) (hpre0 : bg ≤ te ∧ te ≤ t ∧ (so = 0 ∨ bg < te)) : Cv l yX9_wantEnd (WW yX9_wantEnd cX9_wantEnd 1 none) rmX9_wantEnd D vwCl (TY g) [.ref (b 0)] [(b 0, .inr (9, [.int (nI n), .ref (b 1), .ref (b 2), .int (nI p0), .ref (b 3), .ref (b 4), .ref (b 5), .ref (b 6), .ref (b 7), .ref (b 8), .int (I 10), .ref (b 9), .int (nI t), .int so, .int (nI bg), .int (nI te), .long W, .int (I 17), .int gd, .int (I 19), .int (I 20), .ref (b 10), .ref (b 11), .ref (b 12), .ref (b 13), .ref (b 14), .ref (b 15), .int (nI q), .int (nI mm), .ref (b 16), .ref (b 17), .ref (b 18), .ref (b 19), .ref (b 20), .ref (b 21), .int (I 35), .int (I 36), .int (I 37), .ref (b 22), .int (nI bd), .int (I 40), .int (I 41), .ref (b 23), .int (I 43), .ref (b 24)])), (b 9, .inl (g 0, 240, .inl a_tape))] (fun u => ∃ (good' : Int32) (begins' : Nat) (tokenEnds' : Nat) (sort' : Int32) (word' : Int64) (value' : Int32), (begins' ≤ tokenEnds' ∧ tokenEnds' ≤ t ∧ (sort' = 0 ∨ begins' < tokenEnds')) ∧ (bg ≤ begins') ∧ (good' = 0 ∨ ¬ gd = 0) ∧ u = [(b 0, .inr (9, [.int (nI n), .ref (b 1), .ref (b 2), .int (nI p0), .ref (b 3), .ref (b 4), .ref (b 5), .ref (b 6), .ref (b 7), .ref (b 8), .int (I 10), .ref (b 9), .int (nI t), .int sort', .int (nI begins'), .int (nI tokenEnds'), .long word', .int value', .int good', .int (I 19), .int (I 20), .ref (b 10), .ref (b 11), .ref (b 12), .ref (b 13), .ref (b 14), .ref (b 15), .int (nI q), .int (nI mm), .ref (b 16), .ref (b 17), .ref (b 18), .ref (b 19), .ref (b 20), .ref (b 21), .int (I 35), .int (I 36), .int (I 37), .ref (b 22), .int (nI bd), .int (I 40), .int (I 41), .ref (b 23), .int (I 43), .ref (b 24)])), (b 9, .inl (g 0, 240, .inl a_tape))]) := by
  refine cv_in (by decide) (Nat.le_of_ble_eq_true rfl) (a0 := [b 0, b 9]) rfl (fun p e s m args below meth c A Q hQ B hr hsc => ?_)
  have M21 : (bg ≤ te ∧ te ≤ t ∧ (so = 0 ∨ bg < te)) → Sx p l e rmX9_wantEnd s m args below meth c D vwCl A 1 Q 21 [(0, .ref (b 0))] [.ref (b 0)] [(b 0, .inr (9, [.int (nI n), .ref (b 1), .ref (b 2), .int (nI p0), .ref (b 3), .ref (b 4), .ref (b 5), .ref (b 6), .ref (b 7), .ref (b 8), .int (I 10), .ref (b 9), .int (nI t), .int so, .int (nI bg), .int (nI te), .long W, .int (I 17), .int gd, .int (I 19), .int (I 20), .ref (b 10), .ref (b 11), .ref (b 12), .ref (b 13), .ref (b 14), .ref (b 15), .int (nI q), .int (nI mm), .ref (b 16), .ref (b 17), .ref (b 18), .ref (b 19), .ref (b 20), .ref (b 21), .int (I 35), .int (I 36), .int (I 37), .ref (b 22), .int (nI bd), .int (I 40), .int (I 41), .ref (b 23), .int (I 43), .ref (b 24)])), (b 9, .inl (g 0, 240, .inl a_tape))] := by
    intro hpre0
    refine s_iconst B dX9_wantEnd_21 ic_0 ?_
    refine s_put (T := TX9) (ws' := [_, _]) B inX9 tyX9_ok nmX9 0 rfl rfl 18 (Nat.le_of_ble_eq_true rfl) fl_X9_148 rfl rfl (by first | rfl | decide) rfl (Nat.le_of_ble_eq_true rfl) rfl dX9_wantEnd_22 ?_
    refine s_aload_n B dX9_wantEnd_25 rfl 0 rfl ?_
    refine s_get (T := TX9) B inX9 0 rfl rfl 18 (Nat.le_of_ble_eq_true rfl) fl_X9_148 rfl rfl dX9_wantEnd_26 ?_
    refine s_if_eq (tgt := 36) B dX9_wantEnd_29 rfl (fun h29 => ?_) (fun h0 => absurd h0 (by decide))
    refine s_vret B hQ hr dX9_wantEnd_36 rfl ?_
    exact ⟨0, bg, te, so, W, (I 17), by first | assumption | omega | (clear hQ B hr hsc; grind), by first | assumption | omega | (clear hQ B hr hsc; grind), by first | assumption | omega | (clear hQ B hr hsc; grind), rfl⟩
  refine s_aload_n B dX9_wantEnd_0 rfl 0 rfl ?_
  refine s_aload_n B dX9_wantEnd_1 rfl 0 rfl ?_
  refine s_get (T := TX9) B inX9 0 rfl rfl 18 (Nat.le_of_ble_eq_true rfl) fl_X9_148 rfl rfl dX9_wantEnd_2 ?_
  refine s_if_eq (tgt := 21) B dX9_wantEnd_5 rfl (fun h5 => ?_) (fun h5 => ?_)
  · refine s_lv (lv' := [(0, _)]) [0] rfl ?_
    exact M21  hpre0
  · refine s_aload_n B dX9_wantEnd_8 rfl 0 rfl ?_
    refine s_bipush B dX9_wantEnd_9 bp_59 ?_
    refine s_callVi B hsc (c_X9_isMark l D g b (upd (upd (upd (upd I 13 so) 14 (nI bg)) 15 (nI te)) 18 gd) W n p0 t q mm bd 59 (by omega) (by omega) (by omega) (by omega) (by omega) (by omega)) (gw_V ml_X9_155 im_yX9_isMark se_yX9_isMark ini_RX9 co_yX9_isMark) hd_X9_isMark rfl rfl ⟨(Nat.le_of_ble_eq_true rfl), (Nat.le_of_ble_eq_true rfl)⟩ [0] [0, 1, 2, 3, 4] rfl rfl rfl (ci := 9) (q0 := 0) rfl rfl rfl rfl rfl (Nat.le_of_ble_eq_true rfl) dX9_wantEnd_11 (fun r_1 u_2 hpo => ?_)
    subst hpo
    refine s_ws (ws' := [(b 0, .inr (9, [.int (nI n), .ref (b 1), .ref (b 2), .int (nI p0), .ref (b 3), .ref (b 4), .ref (b 5), .ref (b 6), .ref (b 7), .ref (b 8), .int (I 10), .ref (b 9), .int (nI t), .int so, .int (nI bg), .int (nI te), .long W, .int (I 17), .int gd, .int (I 19), .int (I 20), .ref (b 10), .ref (b 11), .ref (b 12), .ref (b 13), .ref (b 14), .ref (b 15), .int (nI q), .int (nI mm), .ref (b 16), .ref (b 17), .ref (b 18), .ref (b 19), .ref (b 20), .ref (b 21), .int (I 35), .int (I 36), .int (I 37), .ref (b 22), .int (nI bd), .int (I 40), .int (I 41), .ref (b 23), .int (I 43), .ref (b 24)])), (b 9, .inl (g 0, 240, .inl a_tape))]) rfl ?_
    refine s_if_eq (tgt := 21) B dX9_wantEnd_14 rfl (fun h14 => ?_) (fun h14 => ?_)
    · refine s_lv (lv' := [(0, _)]) [0] rfl ?_
      exact M21  hpre0
    · refine s_iconst B dX9_wantEnd_17 ic_1 ?_
      refine s_goto (tgt := 22) B dX9_wantEnd_18 rfl ?_
      refine s_put (T := TX9) (ws' := [_, _]) B inX9 tyX9_ok nmX9 0 rfl rfl 18 (Nat.le_of_ble_eq_true rfl) fl_X9_148 rfl rfl (by first | rfl | decide) rfl (Nat.le_of_ble_eq_true rfl) rfl dX9_wantEnd_22 ?_
      refine s_aload_n B dX9_wantEnd_25 rfl 0 rfl ?_
      refine s_get (T := TX9) B inX9 0 rfl rfl 18 (Nat.le_of_ble_eq_true rfl) fl_X9_148 rfl rfl dX9_wantEnd_26 ?_
      refine s_if_eq (tgt := 36) B dX9_wantEnd_29 rfl (fun h0 => absurd h0 (by decide)) (fun h29 => ?_)
      refine s_aload_n B dX9_wantEnd_32 rfl 0 rfl ?_
      refine s_callVv B hsc (c_X9_advance l D g b (upd (upd (upd I 13 so) 14 (nI bg)) 18 1) W n p0 t q mm bd te a_tape (by omega) (by omega) (by omega) (by omega) (by omega) (by omega) (by first | assumption | (intro h9; first | assumption | exact absurd h9 (by decide)) | omega | rfl | (refine ⟨_, ?_, by assumption⟩; omega) | (clear hQ B hr hsc; grind))) (gw_V ml_X9_152 im_yX9_advance se_yX9_advance ini_RX9 co_yX9_advance) hd_X9_advance rfl rfl ⟨(Nat.le_of_ble_eq_true rfl), (Nat.le_of_ble_eq_true rfl)⟩ [0, 1] [0, 1, 2, 3, 4] rfl rfl rfl (ci := 9) (q0 := 0) rfl rfl rfl rfl rfl (Nat.le_of_ble_eq_true rfl) dX9_wantEnd_33 (fun u_4 hpo => ?_)
      obtain ⟨begins_5, te_6, v_7, w_8, v_9, hf_10, rfl⟩ := hpo
      refine s_ws (ws' := [(b 0, .inr (9, [.int (nI n), .ref (b 1), .ref (b 2), .int (nI p0), .ref (b 3), .ref (b 4), .ref (b 5), .ref (b 6), .ref (b 7), .ref (b 8), .int (I 10), .ref (b 9), .int (nI t), .int v_7, .int (nI begins_5), .int (nI te_6), .long w_8, .int v_9, .int 1, .int (I 19), .int (I 20), .ref (b 10), .ref (b 11), .ref (b 12), .ref (b 13), .ref (b 14), .ref (b 15), .int (nI q), .int (nI mm), .ref (b 16), .ref (b 17), .ref (b 18), .ref (b 19), .ref (b 20), .ref (b 21), .int (I 35), .int (I 36), .int (I 37), .ref (b 22), .int (nI bd), .int (I 40), .int (I 41), .ref (b 23), .int (I 43), .ref (b 24)])), (b 9, .inl (g 0, 240, .inl a_tape))]) rfl ?_
      refine s_vret B hQ hr dX9_wantEnd_36 rfl ?_
      exact ⟨1, begins_5, te_6, v_7, w_8, v_9, by first | assumption | omega | (clear hQ B hr hsc; grind), by first | assumption | omega | (clear hQ B hr hsc; grind), by first | assumption | omega | (clear hQ B hr hsc; grind), rfl⟩
def rmX9_wantLaw : Room := { frames := 4, cells := 0, slots := 0, locals := 86 }
theorem hd_X9_wantLaw : yX9_wantLaw.cls = RX9 ∧ yX9_wantLaw.cls ≠ "java/lang/invoke/MethodHandle" ∧ yX9_wantLaw.cls ≠ "java/lang/invoke/VarHandle" ∧ (parseMethodDescriptor yX9_wantLaw.desc).map (fun d => d.parameters.length) = some 1 := by decide +kernel
set_option maxHeartbeats 4000000 in
set_option maxRecDepth 100000 in
theorem c_X9_wantLaw (l : Launch) (D : va_G) (g : Nat → ClassId) (b : Nat → Nat) (I : Nat → Int32) (W : Int64) (n p0 t q mm bd : Nat) (bg : Nat) (te : Nat) (so : Int32) (gd : Int32) (a_tape : Nat → Int32) (a_leastOf : Nat → Int32) (a_mostOf : Nat → Int32) (a_freshLaws : Nat → Int32) (l1 : Nat) (hn : n ≤ 8) (hp : p0 = 0 ∨ p0 = 25) (ht : t ≤ 240) (hq0 : q ≤ 20) (hmm : mm ≤ 20) (hbd : bd ≤ 30) (hpre0 : bg ≤ te ∧ te ≤ t ∧ (so = 0 ∨ bg < te)) (hpre1 : bg < te) (hpre2 : l1 < 4) : Cv l yX9_wantLaw (WW yX9_wantLaw cX9_wantLaw 3 none) rmX9_wantLaw D vwCl (TY g) [.ref (b 0), .int (nI l1)] [(b 0, .inr (9, [.int (nI n), .ref (b 1), .ref (b 2), .int (nI p0), .ref (b 3), .ref (b 4), .ref (b 5), .ref (b 6), .ref (b 7), .ref (b 8), .int (I 10), .ref (b 9), .int (nI t), .int so, .int (nI bg), .int (nI te), .long W, .int (I 17), .int gd, .int (I 19), .int (I 20), .ref (b 10), .ref (b 11), .ref (b 12), .ref (b 13), .ref (b 14), .ref (b 15), .int (nI q), .int (nI mm), .ref (b 16), .ref (b 17), .ref (b 18), .ref (b 19), .ref (b 20), .ref (b 21), .int (I 35), .int (I 36), .int (I 37), .ref (b 22), .int (nI bd), .int (I 40), .int (I 41), .ref (b 23), .int (I 43), .ref (b 24)])), (b 9, .inl (g 0, 240, .inl a_tape)), (b 7, .inl (g 0, 4, .inl a_leastOf)), (b 8, .inl (g 0, 4, .inl a_mostOf)), (b 13, .inl (g 0, 4, .inl a_freshLaws))] (fun u => ∃ (good' : Int32) (begins' : Nat) (tokenEnds' : Nat) (sort' : Int32) (word' : Int64) (value' : Int32) (a_freshLaws' : Nat → Int32), (begins' ≤ tokenEnds' ∧ tokenEnds' ≤ t ∧ (sort' = 0 ∨ begins' < tokenEnds')) ∧ (bg ≤ begins') ∧ (good' = 0 ∨ bg < begins') ∧ u = [(b 0, .inr (9, [.int (nI n), .ref (b 1), .ref (b 2), .int (nI p0), .ref (b 3), .ref (b 4), .ref (b 5), .ref (b 6), .ref (b 7), .ref (b 8), .int (I 10), .ref (b 9), .int (nI t), .int sort', .int (nI begins'), .int (nI tokenEnds'), .long word', .int value', .int good', .int (I 19), .int (I 20), .ref (b 10), .ref (b 11), .ref (b 12), .ref (b 13), .ref (b 14), .ref (b 15), .int (nI q), .int (nI mm), .ref (b 16), .ref (b 17), .ref (b 18), .ref (b 19), .ref (b 20), .ref (b 21), .int (I 35), .int (I 36), .int (I 37), .ref (b 22), .int (nI bd), .int (I 40), .int (I 41), .ref (b 23), .int (I 43), .ref (b 24)])), (b 9, .inl (g 0, 240, .inl a_tape)), (b 7, .inl (g 0, 4, .inl a_leastOf)), (b 8, .inl (g 0, 4, .inl a_mostOf)), (b 13, .inl (g 0, 4, .inl a_freshLaws'))]) := by
  refine cv_in (by decide) (Nat.le_of_ble_eq_true rfl) (a0 := [b 0, b 9, b 7, b 8, b 13]) rfl (fun p e s m args below meth c A Q hQ B hr hsc => ?_)
  refine s_aload_n B dX9_wantLaw_0 rfl 0 rfl ?_
  refine s_callVv B hsc (c_X9_advance l D g b (upd (upd (upd I 13 so) 14 (nI bg)) 18 gd) W n p0 t q mm bd te a_tape (by omega) (by omega) (by omega) (by omega) (by omega) (by omega) (by first | assumption | (intro h9; first | assumption | exact absurd h9 (by decide)) | omega | rfl | (refine ⟨_, ?_, by assumption⟩; omega) | (clear hQ B hr hsc; grind))) (gw_V ml_X9_152 im_yX9_advance se_yX9_advance ini_RX9 co_yX9_advance) hd_X9_advance rfl rfl ⟨(Nat.le_of_ble_eq_true rfl), (Nat.le_of_ble_eq_true rfl)⟩ [0, 1] [0, 1, 2, 3, 4] rfl rfl rfl (ci := 9) (q0 := 0) rfl rfl rfl rfl rfl (Nat.le_of_ble_eq_true rfl) dX9_wantLaw_1 (fun u_2 hpo => ?_)
  obtain ⟨begins_3, te_4, v_5, w_6, v_7, hf_8, rfl⟩ := hpo
  refine s_ws (ws' := [(b 0, .inr (9, [.int (nI n), .ref (b 1), .ref (b 2), .int (nI p0), .ref (b 3), .ref (b 4), .ref (b 5), .ref (b 6), .ref (b 7), .ref (b 8), .int (I 10), .ref (b 9), .int (nI t), .int v_5, .int (nI begins_3), .int (nI te_4), .long w_6, .int v_7, .int gd, .int (I 19), .int (I 20), .ref (b 10), .ref (b 11), .ref (b 12), .ref (b 13), .ref (b 14), .ref (b 15), .int (nI q), .int (nI mm), .ref (b 16), .ref (b 17), .ref (b 18), .ref (b 19), .ref (b 20), .ref (b 21), .int (I 35), .int (I 36), .int (I 37), .ref (b 22), .int (nI bd), .int (I 40), .int (I 41), .ref (b 23), .int (I 43), .ref (b 24)])), (b 9, .inl (g 0, 240, .inl a_tape)), (b 7, .inl (g 0, 4, .inl a_leastOf)), (b 8, .inl (g 0, 4, .inl a_mostOf)), (b 13, .inl (g 0, 4, .inl a_freshLaws))]) rfl ?_
  refine s_aload_n B dX9_wantLaw_4 rfl 0 rfl ?_
  refine s_aload_n B dX9_wantLaw_5 rfl 0 rfl ?_
  refine s_get (T := TX9) B inX9 0 rfl rfl 8 (Nat.le_of_ble_eq_true rfl) fl_X9_28 rfl rfl dX9_wantLaw_6 ?_
  refine s_iload_n B dX9_wantLaw_9 rfl 1 rfl ?_
  refine s_ialdN B 2 0 rfl rfl dX9_wantLaw_10 (by omega) (by decide) ?_
  refine s_aload_n B dX9_wantLaw_11 rfl 0 rfl ?_
  refine s_get (T := TX9) B inX9 0 rfl rfl 9 (Nat.le_of_ble_eq_true rfl) fl_X9_31 rfl rfl dX9_wantLaw_12 ?_
  refine s_iload_n B dX9_wantLaw_15 rfl 1 rfl ?_
  refine s_ialdN B 3 0 rfl rfl dX9_wantLaw_16 (by omega) (by decide) ?_
  refine s_callVi B hsc (c_X9_wantNumber l D g b (upd I 17 v_7) w_6 n p0 t q mm bd begins_3 te_4 v_5 gd a_tape (a_leastOf l1) (a_mostOf l1) (by omega) (by omega) (by omega) (by omega) (by omega) (by omega) (by first | assumption | (intro h9; first | assumption | exact absurd h9 (by decide)) | omega | rfl | (refine ⟨_, ?_, by assumption⟩; omega) | (clear hQ B hr hsc; grind))) (gw_V ml_X9_161 im_yX9_wantNumber se_yX9_wantNumber ini_RX9 co_yX9_wantNumber) hd_X9_wantNumber rfl rfl ⟨(Nat.le_of_ble_eq_true rfl), (Nat.le_of_ble_eq_true rfl)⟩ [0, 1] [0, 1, 2, 3, 4] rfl rfl rfl (ci := 9) (q0 := 0) rfl rfl rfl rfl rfl (Nat.le_of_ble_eq_true rfl) dX9_wantLaw_17 (fun r_9 u_10 hpo => ?_)
  obtain ⟨v_11, bg_12, te_13, v_14, w_15, v_16, hf_17, hf_18, hf_19, rfl⟩ := hpo
  refine s_ws (ws' := [(b 0, .inr (9, [.int (nI n), .ref (b 1), .ref (b 2), .int (nI p0), .ref (b 3), .ref (b 4), .ref (b 5), .ref (b 6), .ref (b 7), .ref (b 8), .int (I 10), .ref (b 9), .int (nI t), .int v_14, .int (nI bg_12), .int (nI te_13), .long w_15, .int v_16, .int v_11, .int (I 19), .int (I 20), .ref (b 10), .ref (b 11), .ref (b 12), .ref (b 13), .ref (b 14), .ref (b 15), .int (nI q), .int (nI mm), .ref (b 16), .ref (b 17), .ref (b 18), .ref (b 19), .ref (b 20), .ref (b 21), .int (I 35), .int (I 36), .int (I 37), .ref (b 22), .int (nI bd), .int (I 40), .int (I 41), .ref (b 23), .int (I 43), .ref (b 24)])), (b 9, .inl (g 0, 240, .inl a_tape)), (b 7, .inl (g 0, 4, .inl a_leastOf)), (b 8, .inl (g 0, 4, .inl a_mostOf)), (b 13, .inl (g 0, 4, .inl a_freshLaws))]) rfl ?_
  refine s_istore_n (lv' := [(2, _), (0, _), (1, _)]) B dX9_wantLaw_20 rfl (Nat.le_of_ble_eq_true rfl) rfl ?_
  refine s_aload_n B dX9_wantLaw_21 rfl 1 rfl ?_
  refine s_callVv B hsc (c_X9_wantEnd l D g b (upd I 17 v_16) w_15 n p0 t q mm bd bg_12 te_13 v_14 v_11 a_tape (by omega) (by omega) (by omega) (by omega) (by omega) (by omega) (by first | assumption | (intro h9; first | assumption | exact absurd h9 (by decide)) | omega | rfl | (refine ⟨_, ?_, by assumption⟩; omega) | (clear hQ B hr hsc; grind))) (gw_V ml_X9_169 im_yX9_wantEnd se_yX9_wantEnd ini_RX9 co_yX9_wantEnd) hd_X9_wantEnd rfl rfl ⟨(Nat.le_of_ble_eq_true rfl), (Nat.le_of_ble_eq_true rfl)⟩ [0, 1] [0, 1, 2, 3, 4] rfl rfl rfl (ci := 9) (q0 := 0) rfl rfl rfl rfl rfl (Nat.le_of_ble_eq_true rfl) dX9_wantLaw_22 (fun u_21 hpo => ?_)
  obtain ⟨v_22, bg_23, te_24, v_25, w_26, v_27, hf_28, hf_29, hf_30, rfl⟩ := hpo
  refine s_ws (ws' := [(b 0, .inr (9, [.int (nI n), .ref (b 1), .ref (b 2), .int (nI p0), .ref (b 3), .ref (b 4), .ref (b 5), .ref (b 6), .ref (b 7), .ref (b 8), .int (I 10), .ref (b 9), .int (nI t), .int v_25, .int (nI bg_23), .int (nI te_24), .long w_26, .int v_27, .int v_22, .int (I 19), .int (I 20), .ref (b 10), .ref (b 11), .ref (b 12), .ref (b 13), .ref (b 14), .ref (b 15), .int (nI q), .int (nI mm), .ref (b 16), .ref (b 17), .ref (b 18), .ref (b 19), .ref (b 20), .ref (b 21), .int (I 35), .int (I 36), .int (I 37), .ref (b 22), .int (nI bd), .int (I 40), .int (I 41), .ref (b 23), .int (I 43), .ref (b 24)])), (b 9, .inl (g 0, 240, .inl a_tape)), (b 7, .inl (g 0, 4, .inl a_leastOf)), (b 8, .inl (g 0, 4, .inl a_mostOf)), (b 13, .inl (g 0, 4, .inl a_freshLaws))]) rfl ?_
  refine s_aload_n B dX9_wantLaw_25 rfl 1 rfl ?_
  refine s_get (T := TX9) B inX9 0 rfl rfl 24 (Nat.le_of_ble_eq_true rfl) fl_X9_50 rfl rfl dX9_wantLaw_26 ?_
  refine s_iload_n B dX9_wantLaw_29 rfl 2 rfl ?_
  refine s_iload_n B dX9_wantLaw_30 rfl 0 rfl ?_
  refine s_iastN (ws' := [_, _, _, _, _]) B 4 0 rfl rfl rfl dX9_wantLaw_31 (by omega) (by decide) ?_
  refine s_vret B hQ hr dX9_wantLaw_32 rfl ?_
  exact ⟨v_22, bg_23, te_24, v_25, w_26, v_27, (upd a_freshLaws l1 r_9), by first | assumption | omega | (clear hQ B hr hsc; grind), by first | assumption | omega | (clear hQ B hr hsc; grind), by first | assumption | omega | (clear hQ B hr hsc; grind), rfl⟩
def rmX9_wantChild : Room := { frames := 4, cells := 0, slots := 0, locals := 86 }
theorem hd_X9_wantChild : yX9_wantChild.cls = RX9 ∧ yX9_wantChild.cls ≠ "java/lang/invoke/MethodHandle" ∧ yX9_wantChild.cls ≠ "java/lang/invoke/VarHandle" ∧ (parseMethodDescriptor yX9_wantChild.desc).map (fun d => d.parameters.length) = some 1 := by decide +kernel
set_option maxHeartbeats 4000000 in
set_option maxRecDepth 100000 in
theorem c_X9_wantChild (l : Launch) (D : va_G) (g : Nat → ClassId) (b : Nat → Nat) (I : Nat → Int32) (W : Int64) (n p0 t q mm bd : Nat) (bg : Nat) (te : Nat) (fc : Nat) (so : Int32) (gd : Int32) (a_tape : Nat → Int32) (a_freshChild : Nat → Int32) (a_freshSick : Nat → Int32) (x0 : Int32) (hn : n ≤ 8) (hp : p0 = 0 ∨ p0 = 25) (ht : t ≤ 240) (hq0 : q ≤ 20) (hmm : mm ≤ 20) (hbd : bd ≤ 30) (hpre0 : bg ≤ te ∧ te ≤ t ∧ (so = 0 ∨ bg < te)) (hpre1 : bg < te) (hpre2 : fc ≤ 8) : Cv l yX9_wantChild (WW yX9_wantChild cX9_wantChild 5 none) rmX9_wantChild D vwCl (TY g) [.ref (b 0), .int x0] [(b 0, .inr (9, [.int (nI n), .ref (b 1), .ref (b 2), .int (nI p0), .ref (b 3), .ref (b 4), .ref (b 5), .ref (b 6), .ref (b 7), .ref (b 8), .int (I 10), .ref (b 9), .int (nI t), .int so, .int (nI bg), .int (nI te), .long W, .int (I 17), .int gd, .int (nI fc), .int (I 20), .ref (b 10), .ref (b 11), .ref (b 12), .ref (b 13), .ref (b 14), .ref (b 15), .int (nI q), .int (nI mm), .ref (b 16), .ref (b 17), .ref (b 18), .ref (b 19), .ref (b 20), .ref (b 21), .int (I 35), .int (I 36), .int (I 37), .ref (b 22), .int (nI bd), .int (I 40), .int (I 41), .ref (b 23), .int (I 43), .ref (b 24)])), (b 9, .inl (g 0, 240, .inl a_tape)), (b 10, .inl (g 0, 32, .inl a_freshChild)), (b 11, .inl (g 0, 8, .inl a_freshSick))] (fun u => ∃ (good' : Int32) (begins' : Nat) (tokenEnds' : Nat) (sort' : Int32) (word' : Int64) (value' : Int32) (freshChildren' : Nat) (a_freshChild' : Nat → Int32) (a_freshSick' : Nat → Int32), (begins' ≤ tokenEnds' ∧ tokenEnds' ≤ t ∧ (sort' = 0 ∨ begins' < tokenEnds')) ∧ (bg ≤ begins') ∧ (good' = 0 ∨ bg < begins') ∧ (freshChildren' ≤ 8) ∧ u = [(b 0, .inr (9, [.int (nI n), .ref (b 1), .ref (b 2), .int (nI p0), .ref (b 3), .ref (b 4), .ref (b 5), .ref (b 6), .ref (b 7), .ref (b 8), .int (I 10), .ref (b 9), .int (nI t), .int sort', .int (nI begins'), .int (nI tokenEnds'), .long word', .int value', .int good', .int (nI freshChildren'), .int (I 20), .ref (b 10), .ref (b 11), .ref (b 12), .ref (b 13), .ref (b 14), .ref (b 15), .int (nI q), .int (nI mm), .ref (b 16), .ref (b 17), .ref (b 18), .ref (b 19), .ref (b 20), .ref (b 21), .int (I 35), .int (I 36), .int (I 37), .ref (b 22), .int (nI bd), .int (I 40), .int (I 41), .ref (b 23), .int (I 43), .ref (b 24)])), (b 9, .inl (g 0, 240, .inl a_tape)), (b 10, .inl (g 0, 32, .inl a_freshChild')), (b 11, .inl (g 0, 8, .inl a_freshSick'))]) := by
  refine cv_in (by decide) (Nat.le_of_ble_eq_true rfl) (a0 := [b 0, b 9, b 10, b 11]) rfl (fun p e s m args below meth c A Q hQ B hr hsc => ?_)
  have M114 : ∀ (v_91 : Int32) (v_92 : Int32) (v_93 : Int32) (v_94 : Int32) (begins_95 : Nat) (tokenEnds_96 : Nat) (w_97 : Int64) (v_98 : Int32) (v_99 : Int32), (bg ≤ te ∧ te ≤ t ∧ (so = 0 ∨ bg < te)) → (bg < te) → (fc ≤ 8) → (begins_95 ≤ tokenEnds_96 ∧ tokenEnds_96 ≤ t ∧ (v_94 = 0 ∨ begins_95 < tokenEnds_96)) → (bg ≤ begins_95) → (v_99 = 0 ∨ (bg < begins_95 ∧ fc < 8)) → Sx p l e rmX9_wantChild s m args below meth c D vwCl A 5 Q 114 [(0, .ref (b 0)), (1, .int x0), (2, .int v_91), (3, .int v_92), (4, .int v_93)] [] [(b 0, .inr (9, [.int (nI n), .ref (b 1), .ref (b 2), .int (nI p0), .ref (b 3), .ref (b 4), .ref (b 5), .ref (b 6), .ref (b 7), .ref (b 8), .int (I 10), .ref (b 9), .int (nI t), .int v_94, .int (nI begins_95), .int (nI tokenEnds_96), .long w_97, .int v_98, .int v_99, .int (nI fc), .int (I 20), .ref (b 10), .ref (b 11), .ref (b 12), .ref (b 13), .ref (b 14), .ref (b 15), .int (nI q), .int (nI mm), .ref (b 16), .ref (b 17), .ref (b 18), .ref (b 19), .ref (b 20), .ref (b 21), .int (I 35), .int (I 36), .int (I 37), .ref (b 22), .int (nI bd), .int (I 40), .int (I 41), .ref (b 23), .int (I 43), .ref (b 24)])), (b 9, .inl (g 0, 240, .inl a_tape)), (b 10, .inl (g 0, 32, .inl a_freshChild)), (b 11, .inl (g 0, 8, .inl a_freshSick))] := by
    intro v_91 v_92 v_93 v_94 begins_95 tokenEnds_96 w_97 v_98 v_99 hpre0 hpre1 hpre2 hc_100 hc_101 hc_102
    refine s_aload_n B dX9_wantChild_114 rfl 0 rfl ?_
    refine s_callVv B hsc (c_X9_wantEnd l D g b (upd (upd I 17 v_98) 19 (nI fc)) w_97 n p0 t q mm bd begins_95 tokenEnds_96 v_94 v_99 a_tape (by omega) (by omega) (by omega) (by omega) (by omega) (by omega) (by first | assumption | (intro h9; first | assumption | exact absurd h9 (by decide)) | omega | rfl | (refine ⟨_, ?_, by assumption⟩; omega) | (clear hQ B hr hsc; grind))) (gw_V ml_X9_169 im_yX9_wantEnd se_yX9_wantEnd ini_RX9 co_yX9_wantEnd) hd_X9_wantEnd rfl rfl ⟨(Nat.le_of_ble_eq_true rfl), (Nat.le_of_ble_eq_true rfl)⟩ [0, 1] [0, 1, 2, 3, 4] rfl rfl rfl (ci := 9) (q0 := 0) rfl rfl rfl rfl rfl (Nat.le_of_ble_eq_true rfl) dX9_wantChild_115 (fun u_104 hpo => ?_)
    obtain ⟨v_105, bg_106, te_107, v_108, w_109, v_110, hf_111, hf_112, hf_113, rfl⟩ := hpo
    refine s_ws (ws' := [(b 0, .inr (9, [.int (nI n), .ref (b 1), .ref (b 2), .int (nI p0), .ref (b 3), .ref (b 4), .ref (b 5), .ref (b 6), .ref (b 7), .ref (b 8), .int (I 10), .ref (b 9), .int (nI t), .int v_108, .int (nI bg_106), .int (nI te_107), .long w_109, .int v_110, .int v_105, .int (nI fc), .int (I 20), .ref (b 10), .ref (b 11), .ref (b 12), .ref (b 13), .ref (b 14), .ref (b 15), .int (nI q), .int (nI mm), .ref (b 16), .ref (b 17), .ref (b 18), .ref (b 19), .ref (b 20), .ref (b 21), .int (I 35), .int (I 36), .int (I 37), .ref (b 22), .int (nI bd), .int (I 40), .int (I 41), .ref (b 23), .int (I 43), .ref (b 24)])), (b 9, .inl (g 0, 240, .inl a_tape)), (b 10, .inl (g 0, 32, .inl a_freshChild)), (b 11, .inl (g 0, 8, .inl a_freshSick))]) rfl ?_
    refine s_aload_n B dX9_wantChild_118 rfl 0 rfl ?_
    refine s_get (T := TX9) B inX9 0 rfl rfl 18 (Nat.le_of_ble_eq_true rfl) fl_X9_148 rfl rfl dX9_wantChild_119 ?_
    refine s_if_eq (tgt := 200) B dX9_wantChild_122 rfl (fun h122 => ?_) (fun h122 => ?_)
    · refine s_vret B hQ hr dX9_wantChild_200 rfl ?_
      exact ⟨v_105, bg_106, te_107, v_108, w_109, v_110, fc, a_freshChild, a_freshSick, by first | assumption | omega | (clear hQ B hr hsc; grind), by first | assumption | omega | (clear hQ B hr hsc; grind), by first | assumption | omega | (clear hQ B hr hsc; grind), by first | assumption | omega | (clear hQ B hr hsc; grind), rfl⟩
    · have hfc : fc < 8 := by first | assumption | omega | (clear hQ B hr hsc; grind)
      refine s_aload_n B dX9_wantChild_125 rfl 0 rfl ?_
      refine s_get (T := TX9) B inX9 0 rfl rfl 21 (Nat.le_of_ble_eq_true rfl) fl_X9_41 rfl rfl dX9_wantChild_126 ?_
      refine s_iconst B dX9_wantChild_129 ic_4 ?_
      refine s_aload_n B dX9_wantChild_130 rfl 0 rfl ?_
      refine s_get (T := TX9) B inX9 0 rfl rfl 19 (Nat.le_of_ble_eq_true rfl) fl_X9_158 rfl rfl dX9_wantChild_131 ?_
      refine s_imulE B dX9_wantChild_134 (pk_mul 4 fc) ?_
      refine s_iload_n B dX9_wantChild_135 rfl 1 rfl ?_
      refine s_iastN (ws' := [_, _, _, _]) B 2 0 rfl rfl rfl dX9_wantChild_136 (by omega) (by decide) ?_
      refine s_aload_n B dX9_wantChild_137 rfl 0 rfl ?_
      refine s_get (T := TX9) B inX9 0 rfl rfl 21 (Nat.le_of_ble_eq_true rfl) fl_X9_41 rfl rfl dX9_wantChild_138 ?_
      refine s_iconst B dX9_wantChild_141 ic_4 ?_
      refine s_aload_n B dX9_wantChild_142 rfl 0 rfl ?_
      refine s_get (T := TX9) B inX9 0 rfl rfl 19 (Nat.le_of_ble_eq_true rfl) fl_X9_158 rfl rfl dX9_wantChild_143 ?_
      refine s_imulE B dX9_wantChild_146 (pk_mul 4 fc) ?_
      refine s_iconst B dX9_wantChild_147 ic_1 ?_
      refine s_iaddE B dX9_wantChild_148 (nI_add (4 * fc) 1) ?_
      refine s_iload_n B dX9_wantChild_149 rfl 2 rfl ?_
      refine s_iastN (ws' := [_, _, _, _]) B 2 0 rfl rfl rfl dX9_wantChild_150 (by omega) (by decide) ?_
      refine s_aload_n B dX9_wantChild_151 rfl 0 rfl ?_
      refine s_get (T := TX9) B inX9 0 rfl rfl 21 (Nat.le_of_ble_eq_true rfl) fl_X9_41 rfl rfl dX9_wantChild_152 ?_
      refine s_iconst B dX9_wantChild_155 ic_4 ?_
      refine s_aload_n B dX9_wantChild_156 rfl 0 rfl ?_
      refine s_get (T := TX9) B inX9 0 rfl rfl 19 (Nat.le_of_ble_eq_true rfl) fl_X9_158 rfl rfl dX9_wantChild_157 ?_
      refine s_imulE B dX9_wantChild_160 (pk_mul 4 fc) ?_
      refine s_iconst B dX9_wantChild_161 ic_2 ?_
      refine s_iaddE B dX9_wantChild_162 (nI_add (4 * fc) 2) ?_
      refine s_iload_n B dX9_wantChild_163 rfl 3 rfl ?_
      refine s_iastN (ws' := [_, _, _, _]) B 2 0 rfl rfl rfl dX9_wantChild_164 (by omega) (by decide) ?_
      refine s_aload_n B dX9_wantChild_165 rfl 0 rfl ?_
      refine s_get (T := TX9) B inX9 0 rfl rfl 21 (Nat.le_of_ble_eq_true rfl) fl_X9_41 rfl rfl dX9_wantChild_166 ?_
      refine s_iconst B dX9_wantChild_169 ic_4 ?_
      refine s_aload_n B dX9_wantChild_170 rfl 0 rfl ?_
      refine s_get (T := TX9) B inX9 0 rfl rfl 19 (Nat.le_of_ble_eq_true rfl) fl_X9_158 rfl rfl dX9_wantChild_171 ?_
      refine s_imulE B dX9_wantChild_174 (pk_mul 4 fc) ?_
      refine s_iconst B dX9_wantChild_175 ic_3 ?_
      refine s_iaddE B dX9_wantChild_176 (nI_add (4 * fc) 3) ?_
      refine s_iload B dX9_wantChild_177 4 rfl ?_
      refine s_iastN (ws' := [_, _, _, _]) B 2 0 rfl rfl rfl dX9_wantChild_179 (by omega) (by decide) ?_
      refine s_aload_n B dX9_wantChild_180 rfl 0 rfl ?_
      refine s_get (T := TX9) B inX9 0 rfl rfl 22 (Nat.le_of_ble_eq_true rfl) fl_X9_44 rfl rfl dX9_wantChild_181 ?_
      refine s_aload_n B dX9_wantChild_184 rfl 0 rfl ?_
      refine s_get (T := TX9) B inX9 0 rfl rfl 19 (Nat.le_of_ble_eq_true rfl) fl_X9_158 rfl rfl dX9_wantChild_185 ?_
      refine s_iconst B dX9_wantChild_188 ic_0 ?_
      refine s_iastN (ws' := [_, _, _, _]) B 3 0 rfl rfl rfl dX9_wantChild_189 (by omega) (by decide) ?_
      refine s_aload_n B dX9_wantChild_190 rfl 0 rfl ?_
      refine s_dup B dX9_wantChild_191 rfl ?_
      refine s_get (T := TX9) B inX9 0 rfl rfl 19 (Nat.le_of_ble_eq_true rfl) fl_X9_158 rfl rfl dX9_wantChild_192 ?_
      refine s_iconst B dX9_wantChild_195 ic_1 ?_
      refine s_iaddE B dX9_wantChild_196 (nI_add fc 1) ?_
      refine s_put (T := TX9) (ws' := [_, _, _, _]) B inX9 tyX9_ok nmX9 0 rfl rfl 19 (Nat.le_of_ble_eq_true rfl) fl_X9_158 rfl rfl rfl rfl (Nat.le_of_ble_eq_true rfl) rfl dX9_wantChild_197 ?_
      refine s_vret B hQ hr dX9_wantChild_200 rfl ?_
      exact ⟨v_105, bg_106, te_107, v_108, w_109, v_110, (fc + 1), (upd (upd (upd (upd a_freshChild (4 * fc) x0) ((4 * fc) + 1) v_91) ((4 * fc) + 2) v_92) ((4 * fc) + 3) v_93), (upd a_freshSick fc 0), by first | assumption | omega | (clear hQ B hr hsc; grind), by first | assumption | omega | (clear hQ B hr hsc; grind), by first | assumption | omega | (clear hQ B hr hsc; grind), by first | assumption | omega | (clear hQ B hr hsc; grind), rfl⟩
  have M74 : ∀ (v_49 : Int32) (v_50 : Int32) (begins_51 : Nat) (tokenEnds_52 : Nat) (w_53 : Int64) (v_54 : Int32) (v_55 : Int32), (bg ≤ te ∧ te ≤ t ∧ (so = 0 ∨ bg < te)) → (bg < te) → (fc ≤ 8) → (begins_51 ≤ tokenEnds_52 ∧ tokenEnds_52 ≤ t ∧ (v_50 = 0 ∨ begins_51 < tokenEnds_52)) → (bg ≤ begins_51) → (v_55 = 0 ∨ (bg < begins_51 ∧ fc < 8)) → Sx p l e rmX9_wantChild s m args below meth c D vwCl A 5 Q 74 [(0, .ref (b 0)), (1, .int x0), (2, .int v_49)] [] [(b 0, .inr (9, [.int (nI n), .ref (b 1), .ref (b 2), .int (nI p0), .ref (b 3), .ref (b 4), .ref (b 5), .ref (b 6), .ref (b 7), .ref (b 8), .int (I 10), .ref (b 9), .int (nI t), .int v_50, .int (nI begins_51), .int (nI tokenEnds_52), .long w_53, .int v_54, .int v_55, .int (nI fc), .int (I 20), .ref (b 10), .ref (b 11), .ref (b 12), .ref (b 13), .ref (b 14), .ref (b 15), .int (nI q), .int (nI mm), .ref (b 16), .ref (b 17), .ref (b 18), .ref (b 19), .ref (b 20), .ref (b 21), .int (I 35), .int (I 36), .int (I 37), .ref (b 22), .int (nI bd), .int (I 40), .int (I 41), .ref (b 23), .int (I 43), .ref (b 24)])), (b 9, .inl (g 0, 240, .inl a_tape)), (b 10, .inl (g 0, 32, .inl a_freshChild)), (b 11, .inl (g 0, 8, .inl a_freshSick))] := by
    intro v_49 v_50 begins_51 tokenEnds_52 w_53 v_54 v_55 hpre0 hpre1 hpre2 hc_56 hc_57 hc_58
    refine s_aload_n B dX9_wantChild_74 rfl 0 rfl ?_
    refine s_iconst B dX9_wantChild_75 ic_0 ?_
    refine s_iconst B dX9_wantChild_76 ic_5 ?_
    refine s_callVi B hsc (c_X9_wantNumber l D g b (upd (upd I 17 v_54) 19 (nI fc)) w_53 n p0 t q mm bd begins_51 tokenEnds_52 v_50 v_55 a_tape 0 5 (by omega) (by omega) (by omega) (by omega) (by omega) (by omega) (by first | assumption | (intro h9; first | assumption | exact absurd h9 (by decide)) | omega | rfl | (refine ⟨_, ?_, by assumption⟩; omega) | (clear hQ B hr hsc; grind))) (gw_V ml_X9_161 im_yX9_wantNumber se_yX9_wantNumber ini_RX9 co_yX9_wantNumber) hd_X9_wantNumber rfl rfl ⟨(Nat.le_of_ble_eq_true rfl), (Nat.le_of_ble_eq_true rfl)⟩ [0, 1] [0, 1, 2, 3, 4] rfl rfl rfl (ci := 9) (q0 := 0) rfl rfl rfl rfl rfl (Nat.le_of_ble_eq_true rfl) dX9_wantChild_77 (fun r_59 u_60 hpo => ?_)
    obtain ⟨v_61, bg_62, te_63, v_64, w_65, v_66, hf_67, hf_68, hf_69, rfl⟩ := hpo
    refine s_ws (ws' := [(b 0, .inr (9, [.int (nI n), .ref (b 1), .ref (b 2), .int (nI p0), .ref (b 3), .ref (b 4), .ref (b 5), .ref (b 6), .ref (b 7), .ref (b 8), .int (I 10), .ref (b 9), .int (nI t), .int v_64, .int (nI bg_62), .int (nI te_63), .long w_65, .int v_66, .int v_61, .int (nI fc), .int (I 20), .ref (b 10), .ref (b 11), .ref (b 12), .ref (b 13), .ref (b 14), .ref (b 15), .int (nI q), .int (nI mm), .ref (b 16), .ref (b 17), .ref (b 18), .ref (b 19), .ref (b 20), .ref (b 21), .int (I 35), .int (I 36), .int (I 37), .ref (b 22), .int (nI bd), .int (I 40), .int (I 41), .ref (b 23), .int (I 43), .ref (b 24)])), (b 9, .inl (g 0, 240, .inl a_tape)), (b 10, .inl (g 0, 32, .inl a_freshChild)), (b 11, .inl (g 0, 8, .inl a_freshSick))]) rfl ?_
    refine s_istore_n (lv' := [(3, _), (0, _), (1, _), (2, _)]) B dX9_wantChild_80 rfl (Nat.le_of_ble_eq_true rfl) rfl ?_
    refine s_iconst B dX9_wantChild_81 ic_0 ?_
    refine s_istore (lv' := [(4, _), (3, _), (0, _), (1, _), (2, _)]) B dX9_wantChild_82 (Nat.le_of_ble_eq_true rfl) rfl ?_
    refine s_aload_n B dX9_wantChild_84 rfl 2 rfl ?_
    refine s_get (T := TX9) B inX9 0 rfl rfl 18 (Nat.le_of_ble_eq_true rfl) fl_X9_148 rfl rfl dX9_wantChild_85 ?_
    refine s_if_eq (tgt := 114) B dX9_wantChild_88 rfl (fun h88 => ?_) (fun h88 => ?_)
    · refine s_lv (lv' := [(0, _), (1, _), (2, _), (3, _), (4, _)]) [2, 3, 4, 1, 0] rfl ?_
      exact M114 v_49 r_59 0 v_64 bg_62 te_63 w_65 v_66 v_61 hpre0 hpre1 hpre2 (by first | assumption | omega | (clear hQ B hr hsc; grind)) (by first | assumption | omega | (clear hQ B hr hsc; grind)) (by first | assumption | omega | (clear hQ B hr hsc; grind))
    · refine s_aload_n B dX9_wantChild_91 rfl 2 rfl ?_
      refine s_ldc2 B cn_X9_167 dX9_wantChild_92 ?_
      refine s_callVi B hsc (c_X9_isWord l D g b (upd (upd (upd (upd (upd (upd I 13 v_64) 14 (nI bg_62)) 15 (nI te_63)) 17 v_66) 18 v_61) 19 (nI fc)) w_65 n p0 t q mm bd 4419 (by omega) (by omega) (by omega) (by omega) (by omega) (by omega)) (gw_V ml_X9_134 im_yX9_isWord se_yX9_isWord ini_RX9 co_yX9_isWord) hd_X9_isWord rfl rfl ⟨(Nat.le_of_ble_eq_true rfl), (Nat.le_of_ble_eq_true rfl)⟩ [0] [0, 1, 2, 3, 4] rfl rfl rfl (ci := 9) (q0 := 0) rfl rfl rfl rfl rfl (Nat.le_of_ble_eq_true rfl) dX9_wantChild_95 (fun r_70 u_71 hpo => ?_)
      subst hpo
      refine s_ws (ws' := [(b 0, .inr (9, [.int (nI n), .ref (b 1), .ref (b 2), .int (nI p0), .ref (b 3), .ref (b 4), .ref (b 5), .ref (b 6), .ref (b 7), .ref (b 8), .int (I 10), .ref (b 9), .int (nI t), .int v_64, .int (nI bg_62), .int (nI te_63), .long w_65, .int v_66, .int v_61, .int (nI fc), .int (I 20), .ref (b 10), .ref (b 11), .ref (b 12), .ref (b 13), .ref (b 14), .ref (b 15), .int (nI q), .int (nI mm), .ref (b 16), .ref (b 17), .ref (b 18), .ref (b 19), .ref (b 20), .ref (b 21), .int (I 35), .int (I 36), .int (I 37), .ref (b 22), .int (nI bd), .int (I 40), .int (I 41), .ref (b 23), .int (I 43), .ref (b 24)])), (b 9, .inl (g 0, 240, .inl a_tape)), (b 10, .inl (g 0, 32, .inl a_freshChild)), (b 11, .inl (g 0, 8, .inl a_freshSick))]) rfl ?_
      refine s_if_eq (tgt := 114) B dX9_wantChild_98 rfl (fun h98 => ?_) (fun h98 => ?_)
      · refine s_lv (lv' := [(0, _), (1, _), (2, _), (3, _), (4, _)]) [2, 3, 4, 1, 0] rfl ?_
        exact M114 v_49 r_59 0 v_64 bg_62 te_63 w_65 v_66 v_61 hpre0 hpre1 hpre2 (by first | assumption | omega | (clear hQ B hr hsc; grind)) (by first | assumption | omega | (clear hQ B hr hsc; grind)) (by first | assumption | omega | (clear hQ B hr hsc; grind))
      · refine s_aload_n B dX9_wantChild_101 rfl 2 rfl ?_
        refine s_callVv B hsc (c_X9_advance l D g b (upd (upd (upd (upd (upd I 13 v_64) 14 (nI bg_62)) 17 v_66) 18 v_61) 19 (nI fc)) w_65 n p0 t q mm bd te_63 a_tape (by omega) (by omega) (by omega) (by omega) (by omega) (by omega) (by first | assumption | (intro h9; first | assumption | exact absurd h9 (by decide)) | omega | rfl | (refine ⟨_, ?_, by assumption⟩; omega) | (clear hQ B hr hsc; grind))) (gw_V ml_X9_152 im_yX9_advance se_yX9_advance ini_RX9 co_yX9_advance) hd_X9_advance rfl rfl ⟨(Nat.le_of_ble_eq_true rfl), (Nat.le_of_ble_eq_true rfl)⟩ [0, 1] [0, 1, 2, 3, 4] rfl rfl rfl (ci := 9) (q0 := 0) rfl rfl rfl rfl rfl (Nat.le_of_ble_eq_true rfl) dX9_wantChild_102 (fun u_73 hpo => ?_)
        obtain ⟨begins_74, te_75, v_76, w_77, v_78, hf_79, rfl⟩ := hpo
        refine s_ws (ws' := [(b 0, .inr (9, [.int (nI n), .ref (b 1), .ref (b 2), .int (nI p0), .ref (b 3), .ref (b 4), .ref (b 5), .ref (b 6), .ref (b 7), .ref (b 8), .int (I 10), .ref (b 9), .int (nI t), .int v_76, .int (nI begins_74), .int (nI te_75), .long w_77, .int v_78, .int v_61, .int (nI fc), .int (I 20), .ref (b 10), .ref (b 11), .ref (b 12), .ref (b 13), .ref (b 14), .ref (b 15), .int (nI q), .int (nI mm), .ref (b 16), .ref (b 17), .ref (b 18), .ref (b 19), .ref (b 20), .ref (b 21), .int (I 35), .int (I 36), .int (I 37), .ref (b 22), .int (nI bd), .int (I 40), .int (I 41), .ref (b 23), .int (I 43), .ref (b 24)])), (b 9, .inl (g 0, 240, .inl a_tape)), (b 10, .inl (g 0, 32, .inl a_freshChild)), (b 11, .inl (g 0, 8, .inl a_freshSick))]) rfl ?_
        refine s_aload_n B dX9_wantChild_105 rfl 2 rfl ?_
        refine s_iconst B dX9_wantChild_106 ic_0 ?_
        refine s_bipush B dX9_wantChild_107 bp_9 ?_
        refine s_callVi B hsc (c_X9_wantNumber l D g b (upd (upd I 17 v_78) 19 (nI fc)) w_77 n p0 t q mm bd begins_74 te_75 v_76 v_61 a_tape 0 9 (by omega) (by omega) (by omega) (by omega) (by omega) (by omega) (by first | assumption | (intro h9; first | assumption | exact absurd h9 (by decide)) | omega | rfl | (refine ⟨_, ?_, by assumption⟩; omega) | (clear hQ B hr hsc; grind))) (gw_V ml_X9_161 im_yX9_wantNumber se_yX9_wantNumber ini_RX9 co_yX9_wantNumber) hd_X9_wantNumber rfl rfl ⟨(Nat.le_of_ble_eq_true rfl), (Nat.le_of_ble_eq_true rfl)⟩ [0, 1] [0, 1, 2, 3, 4] rfl rfl rfl (ci := 9) (q0 := 0) rfl rfl rfl rfl rfl (Nat.le_of_ble_eq_true rfl) dX9_wantChild_109 (fun r_80 u_81 hpo => ?_)
        obtain ⟨v_82, bg_83, te_84, v_85, w_86, v_87, hf_88, hf_89, hf_90, rfl⟩ := hpo
        refine s_ws (ws' := [(b 0, .inr (9, [.int (nI n), .ref (b 1), .ref (b 2), .int (nI p0), .ref (b 3), .ref (b 4), .ref (b 5), .ref (b 6), .ref (b 7), .ref (b 8), .int (I 10), .ref (b 9), .int (nI t), .int v_85, .int (nI bg_83), .int (nI te_84), .long w_86, .int v_87, .int v_82, .int (nI fc), .int (I 20), .ref (b 10), .ref (b 11), .ref (b 12), .ref (b 13), .ref (b 14), .ref (b 15), .int (nI q), .int (nI mm), .ref (b 16), .ref (b 17), .ref (b 18), .ref (b 19), .ref (b 20), .ref (b 21), .int (I 35), .int (I 36), .int (I 37), .ref (b 22), .int (nI bd), .int (I 40), .int (I 41), .ref (b 23), .int (I 43), .ref (b 24)])), (b 9, .inl (g 0, 240, .inl a_tape)), (b 10, .inl (g 0, 32, .inl a_freshChild)), (b 11, .inl (g 0, 8, .inl a_freshSick))]) rfl ?_
        refine s_istore (lv' := [(4, _), (3, _), (0, _), (1, _), (2, _)]) B dX9_wantChild_112 (Nat.le_of_ble_eq_true rfl) rfl ?_
        refine s_lv (lv' := [(0, _), (1, _), (2, _), (3, _), (4, _)]) [2, 3, 4, 1, 0] rfl ?_
        exact M114 v_49 r_59 r_80 v_85 bg_83 te_84 w_86 v_87 v_82 hpre0 hpre1 hpre2 (by first | assumption | omega | (clear hQ B hr hsc; grind)) (by first | assumption | omega | (clear hQ B hr hsc; grind)) (by first | assumption | omega | (clear hQ B hr hsc; grind))
  have M59 : ∀ (v_39 : Int32) (v_40 : Int32) (begins_41 : Nat) (tokenEnds_42 : Nat) (w_43 : Int64) (v_44 : Int32) (v_45 : Int32), (bg ≤ te ∧ te ≤ t ∧ (so = 0 ∨ bg < te)) → (bg < te) → (fc ≤ 8) → (begins_41 ≤ tokenEnds_42 ∧ tokenEnds_42 ≤ t ∧ (v_40 = 0 ∨ begins_41 < tokenEnds_42)) → (bg ≤ begins_41) → (v_45 = 0 ∨ (bg < begins_41 ∧ fc < 8)) → Sx p l e rmX9_wantChild s m args below meth c D vwCl A 5 Q 59 [(0, .ref (b 0)), (1, .int x0), (2, .int v_39)] [.ref (b 0)] [(b 0, .inr (9, [.int (nI n), .ref (b 1), .ref (b 2), .int (nI p0), .ref (b 3), .ref (b 4), .ref (b 5), .ref (b 6), .ref (b 7), .ref (b 8), .int (I 10), .ref (b 9), .int (nI t), .int v_40, .int (nI begins_41), .int (nI tokenEnds_42), .long w_43, .int v_44, .int v_45, .int (nI fc), .int (I 20), .ref (b 10), .ref (b 11), .ref (b 12), .ref (b 13), .ref (b 14), .ref (b 15), .int (nI q), .int (nI mm), .ref (b 16), .ref (b 17), .ref (b 18), .ref (b 19), .ref (b 20), .ref (b 21), .int (I 35), .int (I 36), .int (I 37), .ref (b 22), .int (nI bd), .int (I 40), .int (I 41), .ref (b 23), .int (I 43), .ref (b 24)])), (b 9, .inl (g 0, 240, .inl a_tape)), (b 10, .inl (g 0, 32, .inl a_freshChild)), (b 11, .inl (g 0, 8, .inl a_freshSick))] := by
    intro v_39 v_40 begins_41 tokenEnds_42 w_43 v_44 v_45 hpre0 hpre1 hpre2 hc_46 hc_47 hc_48
    refine s_iconst B dX9_wantChild_59 ic_0 ?_
    refine s_put (T := TX9) (ws' := [_, _, _, _]) B inX9 tyX9_ok nmX9 0 rfl rfl 18 (Nat.le_of_ble_eq_true rfl) fl_X9_148 rfl rfl (by first | rfl | decide) rfl (Nat.le_of_ble_eq_true rfl) rfl dX9_wantChild_60 ?_
    refine s_aload_n B dX9_wantChild_63 rfl 0 rfl ?_
    refine s_get (T := TX9) B inX9 0 rfl rfl 18 (Nat.le_of_ble_eq_true rfl) fl_X9_148 rfl rfl dX9_wantChild_64 ?_
    refine s_if_eq (tgt := 74) B dX9_wantChild_67 rfl (fun h67 => ?_) (fun h0 => absurd h0 (by decide))
    refine s_lv (lv' := [(0, _), (1, _), (2, _)]) [0, 1, 2] rfl ?_
    exact M74 v_39 v_40 begins_41 tokenEnds_42 w_43 v_44 0 hpre0 hpre1 hpre2 (by first | assumption | omega | (clear hQ B hr hsc; grind)) (by first | assumption | omega | (clear hQ B hr hsc; grind)) (by first | assumption | omega | (clear hQ B hr hsc; grind))
  have M29 : ∀ (v_9 : Int32) (begins_10 : Nat) (tokenEnds_11 : Nat) (w_12 : Int64) (v_13 : Int32) (v_14 : Int32), (bg ≤ te ∧ te ≤ t ∧ (so = 0 ∨ bg < te)) → (bg < te) → (fc ≤ 8) → (begins_10 ≤ tokenEnds_11 ∧ tokenEnds_11 ≤ t ∧ (v_9 = 0 ∨ begins_10 < tokenEnds_11)) → (bg ≤ begins_10) → (v_14 = 0 ∨ (bg < begins_10 ∧ fc < 8)) → Sx p l e rmX9_wantChild s m args below meth c D vwCl A 5 Q 29 [(0, .ref (b 0)), (1, .int x0)] [] [(b 0, .inr (9, [.int (nI n), .ref (b 1), .ref (b 2), .int (nI p0), .ref (b 3), .ref (b 4), .ref (b 5), .ref (b 6), .ref (b 7), .ref (b 8), .int (I 10), .ref (b 9), .int (nI t), .int v_9, .int (nI begins_10), .int (nI tokenEnds_11), .long w_12, .int v_13, .int v_14, .int (nI fc), .int (I 20), .ref (b 10), .ref (b 11), .ref (b 12), .ref (b 13), .ref (b 14), .ref (b 15), .int (nI q), .int (nI mm), .ref (b 16), .ref (b 17), .ref (b 18), .ref (b 19), .ref (b 20), .ref (b 21), .int (I 35), .int (I 36), .int (I 37), .ref (b 22), .int (nI bd), .int (I 40), .int (I 41), .ref (b 23), .int (I 43), .ref (b 24)])), (b 9, .inl (g 0, 240, .inl a_tape)), (b 10, .inl (g 0, 32, .inl a_freshChild)), (b 11, .inl (g 0, 8, .inl a_freshSick))] := by
    intro v_9 begins_10 tokenEnds_11 w_12 v_13 v_14 hpre0 hpre1 hpre2 hc_15 hc_16 hc_17
    refine s_aload_n B dX9_wantChild_29 rfl 0 rfl ?_
    refine s_iconst B dX9_wantChild_30 ic_0 ?_
    refine s_bipush B dX9_wantChild_31 bp_9 ?_
    refine s_callVi B hsc (c_X9_wantNumber l D g b (upd (upd I 17 v_13) 19 (nI fc)) w_12 n p0 t q mm bd begins_10 tokenEnds_11 v_9 v_14 a_tape 0 9 (by omega) (by omega) (by omega) (by omega) (by omega) (by omega) (by first | assumption | (intro h9; first | assumption | exact absurd h9 (by decide)) | omega | rfl | (refine ⟨_, ?_, by assumption⟩; omega) | (clear hQ B hr hsc; grind))) (gw_V ml_X9_161 im_yX9_wantNumber se_yX9_wantNumber ini_RX9 co_yX9_wantNumber) hd_X9_wantNumber rfl rfl ⟨(Nat.le_of_ble_eq_true rfl), (Nat.le_of_ble_eq_true rfl)⟩ [0, 1] [0, 1, 2, 3, 4] rfl rfl rfl (ci := 9) (q0 := 0) rfl rfl rfl rfl rfl (Nat.le_of_ble_eq_true rfl) dX9_wantChild_33 (fun r_18 u_19 hpo => ?_)
    obtain ⟨v_20, bg_21, te_22, v_23, w_24, v_25, hf_26, hf_27, hf_28, rfl⟩ := hpo
    refine s_ws (ws' := [(b 0, .inr (9, [.int (nI n), .ref (b 1), .ref (b 2), .int (nI p0), .ref (b 3), .ref (b 4), .ref (b 5), .ref (b 6), .ref (b 7), .ref (b 8), .int (I 10), .ref (b 9), .int (nI t), .int v_23, .int (nI bg_21), .int (nI te_22), .long w_24, .int v_25, .int v_20, .int (nI fc), .int (I 20), .ref (b 10), .ref (b 11), .ref (b 12), .ref (b 13), .ref (b 14), .ref (b 15), .int (nI q), .int (nI mm), .ref (b 16), .ref (b 17), .ref (b 18), .ref (b 19), .ref (b 20), .ref (b 21), .int (I 35), .int (I 36), .int (I 37), .ref (b 22), .int (nI bd), .int (I 40), .int (I 41), .ref (b 23), .int (I 43), .ref (b 24)])), (b 9, .inl (g 0, 240, .inl a_tape)), (b 10, .inl (g 0, 32, .inl a_freshChild)), (b 11, .inl (g 0, 8, .inl a_freshSick))]) rfl ?_
    refine s_istore_n (lv' := [(2, _), (0, _), (1, _)]) B dX9_wantChild_36 rfl (Nat.le_of_ble_eq_true rfl) rfl ?_
    refine s_aload_n B dX9_wantChild_37 rfl 1 rfl ?_
    refine s_aload_n B dX9_wantChild_38 rfl 1 rfl ?_
    refine s_get (T := TX9) B inX9 0 rfl rfl 18 (Nat.le_of_ble_eq_true rfl) fl_X9_148 rfl rfl dX9_wantChild_39 ?_
    refine s_if_eq (tgt := 59) B dX9_wantChild_42 rfl (fun h42 => ?_) (fun h42 => ?_)
    · refine s_lv (lv' := [(0, _), (1, _), (2, _)]) [1, 2, 0] rfl ?_
      exact M59 r_18 v_23 bg_21 te_22 w_24 v_25 v_20 hpre0 hpre1 hpre2 (by first | assumption | omega | (clear hQ B hr hsc; grind)) (by first | assumption | omega | (clear hQ B hr hsc; grind)) (by first | assumption | omega | (clear hQ B hr hsc; grind))
    · refine s_aload_n B dX9_wantChild_45 rfl 1 rfl ?_
      refine s_ldc2 B cn_X9_165 dX9_wantChild_46 ?_
      refine s_callVi B hsc (c_X9_isWord l D g b (upd (upd (upd (upd (upd (upd I 13 v_23) 14 (nI bg_21)) 15 (nI te_22)) 17 v_25) 18 v_20) 19 (nI fc)) w_24 n p0 t q mm bd 257 (by omega) (by omega) (by omega) (by omega) (by omega) (by omega)) (gw_V ml_X9_134 im_yX9_isWord se_yX9_isWord ini_RX9 co_yX9_isWord) hd_X9_isWord rfl rfl ⟨(Nat.le_of_ble_eq_true rfl), (Nat.le_of_ble_eq_true rfl)⟩ [0] [0, 1, 2, 3, 4] rfl rfl rfl (ci := 9) (q0 := 0) rfl rfl rfl rfl rfl (Nat.le_of_ble_eq_true rfl) dX9_wantChild_49 (fun r_29 u_30 hpo => ?_)
      subst hpo
      refine s_ws (ws' := [(b 0, .inr (9, [.int (nI n), .ref (b 1), .ref (b 2), .int (nI p0), .ref (b 3), .ref (b 4), .ref (b 5), .ref (b 6), .ref (b 7), .ref (b 8), .int (I 10), .ref (b 9), .int (nI t), .int v_23, .int (nI bg_21), .int (nI te_22), .long w_24, .int v_25, .int v_20, .int (nI fc), .int (I 20), .ref (b 10), .ref (b 11), .ref (b 12), .ref (b 13), .ref (b 14), .ref (b 15), .int (nI q), .int (nI mm), .ref (b 16), .ref (b 17), .ref (b 18), .ref (b 19), .ref (b 20), .ref (b 21), .int (I 35), .int (I 36), .int (I 37), .ref (b 22), .int (nI bd), .int (I 40), .int (I 41), .ref (b 23), .int (I 43), .ref (b 24)])), (b 9, .inl (g 0, 240, .inl a_tape)), (b 10, .inl (g 0, 32, .inl a_freshChild)), (b 11, .inl (g 0, 8, .inl a_freshSick))]) rfl ?_
      refine s_if_eq (tgt := 59) B dX9_wantChild_52 rfl (fun h52 => ?_) (fun h52 => ?_)
      · refine s_lv (lv' := [(0, _), (1, _), (2, _)]) [1, 2, 0] rfl ?_
        exact M59 r_18 v_23 bg_21 te_22 w_24 v_25 v_20 hpre0 hpre1 hpre2 (by first | assumption | omega | (clear hQ B hr hsc; grind)) (by first | assumption | omega | (clear hQ B hr hsc; grind)) (by first | assumption | omega | (clear hQ B hr hsc; grind))
      · refine s_iconst B dX9_wantChild_55 ic_1 ?_
        refine s_goto (tgt := 60) B dX9_wantChild_56 rfl ?_
        refine s_put (T := TX9) (ws' := [_, _, _, _]) B inX9 tyX9_ok nmX9 0 rfl rfl 18 (Nat.le_of_ble_eq_true rfl) fl_X9_148 rfl rfl (by first | rfl | decide) rfl (Nat.le_of_ble_eq_true rfl) rfl dX9_wantChild_60 ?_
        refine s_aload_n B dX9_wantChild_63 rfl 1 rfl ?_
        refine s_get (T := TX9) B inX9 0 rfl rfl 18 (Nat.le_of_ble_eq_true rfl) fl_X9_148 rfl rfl dX9_wantChild_64 ?_
        refine s_if_eq (tgt := 74) B dX9_wantChild_67 rfl (fun h0 => absurd h0 (by decide)) (fun h67 => ?_)
        refine s_aload_n B dX9_wantChild_70 rfl 1 rfl ?_
        refine s_callVv B hsc (c_X9_advance l D g b (upd (upd (upd (upd (upd I 13 v_23) 14 (nI bg_21)) 17 v_25) 18 1) 19 (nI fc)) w_24 n p0 t q mm bd te_22 a_tape (by omega) (by omega) (by omega) (by omega) (by omega) (by omega) (by first | assumption | (intro h9; first | assumption | exact absurd h9 (by decide)) | omega | rfl | (refine ⟨_, ?_, by assumption⟩; omega) | (clear hQ B hr hsc; grind))) (gw_V ml_X9_152 im_yX9_advance se_yX9_advance ini_RX9 co_yX9_advance) hd_X9_advance rfl rfl ⟨(Nat.le_of_ble_eq_true rfl), (Nat.le_of_ble_eq_true rfl)⟩ [0, 1] [0, 1, 2, 3, 4] rfl rfl rfl (ci := 9) (q0 := 0) rfl rfl rfl rfl rfl (Nat.le_of_ble_eq_true rfl) dX9_wantChild_71 (fun u_32 hpo => ?_)
        obtain ⟨begins_33, te_34, v_35, w_36, v_37, hf_38, rfl⟩ := hpo
        refine s_ws (ws' := [(b 0, .inr (9, [.int (nI n), .ref (b 1), .ref (b 2), .int (nI p0), .ref (b 3), .ref (b 4), .ref (b 5), .ref (b 6), .ref (b 7), .ref (b 8), .int (I 10), .ref (b 9), .int (nI t), .int v_35, .int (nI begins_33), .int (nI te_34), .long w_36, .int v_37, .int 1, .int (nI fc), .int (I 20), .ref (b 10), .ref (b 11), .ref (b 12), .ref (b 13), .ref (b 14), .ref (b 15), .int (nI q), .int (nI mm), .ref (b 16), .ref (b 17), .ref (b 18), .ref (b 19), .ref (b 20), .ref (b 21), .int (I 35), .int (I 36), .int (I 37), .ref (b 22), .int (nI bd), .int (I 40), .int (I 41), .ref (b 23), .int (I 43), .ref (b 24)])), (b 9, .inl (g 0, 240, .inl a_tape)), (b 10, .inl (g 0, 32, .inl a_freshChild)), (b 11, .inl (g 0, 8, .inl a_freshSick))]) rfl ?_
        refine s_lv (lv' := [(0, _), (1, _), (2, _)]) [1, 2, 0] rfl ?_
        exact M74 r_18 v_35 begins_33 te_34 w_36 v_37 1 hpre0 hpre1 hpre2 (by first | assumption | omega | (clear hQ B hr hsc; grind)) (by first | assumption | omega | (clear hQ B hr hsc; grind)) (by first | assumption | omega | (clear hQ B hr hsc; grind))
  refine s_aload_n B dX9_wantChild_0 rfl 0 rfl ?_
  refine s_aload_n B dX9_wantChild_1 rfl 0 rfl ?_
  refine s_get (T := TX9) B inX9 0 rfl rfl 19 (Nat.le_of_ble_eq_true rfl) fl_X9_158 rfl rfl dX9_wantChild_2 ?_
  refine s_bipush B dX9_wantChild_5 bp_8 ?_
  refine s_icmp_ge (tgt := 14) B dX9_wantChild_7 rfl (fun h7 => ?_) (fun h7 => ?_)
  · replace h7 : 8 ≤ fc := (nI_leI (a := 8) (b := fc) (by omega) (by omega)).mp h7
    refine s_iconst B dX9_wantChild_14 ic_0 ?_
    refine s_put (T := TX9) (ws' := [_, _, _, _]) B inX9 tyX9_ok nmX9 0 rfl rfl 18 (Nat.le_of_ble_eq_true rfl) fl_X9_148 rfl rfl (by first | rfl | decide) rfl (Nat.le_of_ble_eq_true rfl) rfl dX9_wantChild_15 ?_
    refine s_aload_n B dX9_wantChild_18 rfl 0 rfl ?_
    refine s_get (T := TX9) B inX9 0 rfl rfl 18 (Nat.le_of_ble_eq_true rfl) fl_X9_148 rfl rfl dX9_wantChild_19 ?_
    refine s_if_eq (tgt := 29) B dX9_wantChild_22 rfl (fun h22 => ?_) (fun h0 => absurd h0 (by decide))
    refine s_lv (lv' := [(0, _), (1, _)]) [0, 1] rfl ?_
    exact M29 so bg te W (I 17) 0 hpre0 hpre1 hpre2 (by first | assumption | omega | (clear hQ B hr hsc; grind)) (by first | assumption | omega | (clear hQ B hr hsc; grind)) (by first | assumption | omega | (clear hQ B hr hsc; grind))
  · replace h7 : ¬ 8 ≤ fc := fun hh => h7 ((nI_leI (a := 8) (b := fc) (by omega) (by omega)).mpr hh)
    refine s_iconst B dX9_wantChild_10 ic_1 ?_
    refine s_goto (tgt := 15) B dX9_wantChild_11 rfl ?_
    refine s_put (T := TX9) (ws' := [_, _, _, _]) B inX9 tyX9_ok nmX9 0 rfl rfl 18 (Nat.le_of_ble_eq_true rfl) fl_X9_148 rfl rfl (by first | rfl | decide) rfl (Nat.le_of_ble_eq_true rfl) rfl dX9_wantChild_15 ?_
    refine s_aload_n B dX9_wantChild_18 rfl 0 rfl ?_
    refine s_get (T := TX9) B inX9 0 rfl rfl 18 (Nat.le_of_ble_eq_true rfl) fl_X9_148 rfl rfl dX9_wantChild_19 ?_
    refine s_if_eq (tgt := 29) B dX9_wantChild_22 rfl (fun h0 => absurd h0 (by decide)) (fun h22 => ?_)
    refine s_aload_n B dX9_wantChild_25 rfl 0 rfl ?_
    refine s_callVv B hsc (c_X9_advance l D g b (upd (upd (upd (upd I 13 so) 14 (nI bg)) 18 1) 19 (nI fc)) W n p0 t q mm bd te a_tape (by omega) (by omega) (by omega) (by omega) (by omega) (by omega) (by first | assumption | (intro h9; first | assumption | exact absurd h9 (by decide)) | omega | rfl | (refine ⟨_, ?_, by assumption⟩; omega) | (clear hQ B hr hsc; grind))) (gw_V ml_X9_152 im_yX9_advance se_yX9_advance ini_RX9 co_yX9_advance) hd_X9_advance rfl rfl ⟨(Nat.le_of_ble_eq_true rfl), (Nat.le_of_ble_eq_true rfl)⟩ [0, 1] [0, 1, 2, 3, 4] rfl rfl rfl (ci := 9) (q0 := 0) rfl rfl rfl rfl rfl (Nat.le_of_ble_eq_true rfl) dX9_wantChild_26 (fun u_2 hpo => ?_)
    obtain ⟨begins_3, te_4, v_5, w_6, v_7, hf_8, rfl⟩ := hpo
    refine s_ws (ws' := [(b 0, .inr (9, [.int (nI n), .ref (b 1), .ref (b 2), .int (nI p0), .ref (b 3), .ref (b 4), .ref (b 5), .ref (b 6), .ref (b 7), .ref (b 8), .int (I 10), .ref (b 9), .int (nI t), .int v_5, .int (nI begins_3), .int (nI te_4), .long w_6, .int v_7, .int 1, .int (nI fc), .int (I 20), .ref (b 10), .ref (b 11), .ref (b 12), .ref (b 13), .ref (b 14), .ref (b 15), .int (nI q), .int (nI mm), .ref (b 16), .ref (b 17), .ref (b 18), .ref (b 19), .ref (b 20), .ref (b 21), .int (I 35), .int (I 36), .int (I 37), .ref (b 22), .int (nI bd), .int (I 40), .int (I 41), .ref (b 23), .int (I 43), .ref (b 24)])), (b 9, .inl (g 0, 240, .inl a_tape)), (b 10, .inl (g 0, 32, .inl a_freshChild)), (b 11, .inl (g 0, 8, .inl a_freshSick))]) rfl ?_
    refine s_lv (lv' := [(0, _), (1, _)]) [0, 1] rfl ?_
    exact M29 v_5 begins_3 te_4 w_6 v_7 1 hpre0 hpre1 hpre2 (by first | assumption | omega | (clear hQ B hr hsc; grind)) (by first | assumption | omega | (clear hQ B hr hsc; grind)) (by first | assumption | omega | (clear hQ B hr hsc; grind))
