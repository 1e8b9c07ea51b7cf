def rmX9_today : Room := { frames := 0, cells := 0, slots := 0, locals := 0 }
theorem hd_X9_today : yX9_today.cls = RX9 ∧ yX9_today.cls ≠ "java/lang/invoke/MethodHandle" ∧ yX9_today.cls ≠ "java/lang/invoke/VarHandle" ∧ (parseMethodDescriptor yX9_today.desc).map (fun d => d.parameters.length) = some 0 := by decide +kernel
set_option maxHeartbeats 4000000 in
set_option maxRecDepth 100000 in
theorem c_X9_today (l : Launch) (D : va_G) (g : Nat → ClassId) (b : Nat → Nat) (I : Nat → Int32) (W : Int64) (n p0 t q mm bd : Nat) (a_row : Nat → Int32) (hn : n ≤ 8) (hp : p0 = 0 ∨ p0 = 25) (ht : t ≤ 240) (hq0 : q ≤ 20) (hmm : mm ≤ 20) (hbd : bd ≤ 30) (ok_a_row : RowOk a_row) : Ci l yX9_today (WW yX9_today cX9_today 1 (some FieldType.int)) rmX9_today D vwCl (TY g) [.ref (b 0)] [(b 0, .inr (9, [.int (nI n), .ref (b 1), .ref (b 2), .int (nI p0), .ref (b 3), .ref (b 4), .ref (b 5), .ref (b 6), .ref (b 7), .ref (b 8), .int (I 10), .ref (b 9), .int (nI t), .int (I 13), .int (I 14), .int (I 15), .long W, .int (I 17), .int (I 18), .int (I 19), .int (I 20), .ref (b 10), .ref (b 11), .ref (b 12), .ref (b 13), .ref (b 14), .ref (b 15), .int (nI q), .int (nI mm), .ref (b 16), .ref (b 17), .ref (b 18), .ref (b 19), .ref (b 20), .ref (b 21), .int (I 35), .int (I 36), .int (I 37), .ref (b 22), .int (nI bd), .int (I 40), .int (I 41), .ref (b 23), .int (I 43), .ref (b 24)])), (b 2, .inl (g 0, 50, .inl a_row))] (fun r u => (r = a_row 0) ∧ u = [(b 0, .inr (9, [.int (nI n), .ref (b 1), .ref (b 2), .int (nI p0), .ref (b 3), .ref (b 4), .ref (b 5), .ref (b 6), .ref (b 7), .ref (b 8), .int (I 10), .ref (b 9), .int (nI t), .int (I 13), .int (I 14), .int (I 15), .long W, .int (I 17), .int (I 18), .int (I 19), .int (I 20), .ref (b 10), .ref (b 11), .ref (b 12), .ref (b 13), .ref (b 14), .ref (b 15), .int (nI q), .int (nI mm), .ref (b 16), .ref (b 17), .ref (b 18), .ref (b 19), .ref (b 20), .ref (b 21), .int (I 35), .int (I 36), .int (I 37), .ref (b 22), .int (nI bd), .int (I 40), .int (I 41), .ref (b 23), .int (I 43), .ref (b 24)])), (b 2, .inl (g 0, 50, .inl a_row))]) := by
  refine ci_in (by decide) (Nat.le_of_ble_eq_true rfl) (a0 := [b 0, b 2]) rfl (fun p e s m args below meth c A Q hQ B hr hsc => ?_)
  refine s_aload_n B dX9_today_0 rfl 0 rfl ?_
  refine s_get (T := TX9) B inX9 0 rfl rfl 2 (Nat.le_of_ble_eq_true rfl) fl_X9_13 rfl rfl dX9_today_1 ?_
  refine s_iconst B dX9_today_4 ic_0 ?_
  refine s_ialdN B 1 0 rfl rfl dX9_today_5 (by decide) (by decide) ?_
  obtain ⟨d_1, hd_2, hr__3⟩ : le40 (a_row 0) := RowOk.at ok_a_row (by omega)
  refine s_st (st' := [.int (nI d_1)]) (by rw [hr__3]) ?_
  refine s_iret B hQ hr dX9_today_6 rfl ?_
  exact ⟨(hr__3).symm, rfl⟩
def rmX9_child : Room := { frames := 2, cells := 0, slots := 0, locals := 43 }
theorem hd_X9_child : yX9_child.cls = RX9 ∧ yX9_child.cls ≠ "java/lang/invoke/MethodHandle" ∧ yX9_child.cls ≠ "java/lang/invoke/VarHandle" ∧ (parseMethodDescriptor yX9_child.desc).map (fun d => d.parameters.length) = some 4 := by decide +kernel
set_option maxHeartbeats 4000000 in
set_option maxRecDepth 100000 in
theorem c_X9_child (l : Launch) (D : va_G) (g : Nat → ClassId) (b : Nat → Nat) (I : Nat → Int32) (W : Int64) (n p0 t q mm bd : Nat) (a_child : Nat → Int32) (a_row : Nat → Int32) (c0 : Int32) (x0 : Int32) (y0 : Int32) (z0 : Int32) (hn : n ≤ 8) (hp : p0 = 0 ∨ p0 = 25) (ht : t ≤ 240) (hq0 : q ≤ 20) (hmm : mm ≤ 20) (hbd : bd ≤ 30) (ok_a_row : RowOk a_row) : Ci l yX9_child (WW yX9_child cX9_child 5 (some FieldType.int)) rmX9_child D vwCl (TY g) [.ref (b 0), .int c0, .int x0, .int y0, .int z0] [(b 0, .inr (9, [.int (nI n), .ref (b 1), .ref (b 2), .int (nI p0), .ref (b 3), .ref (b 4), .ref (b 5), .ref (b 6), .ref (b 7), .ref (b 8), .int (I 10), .ref (b 9), .int (nI t), .int (I 13), .int (I 14), .int (I 15), .long W, .int (I 17), .int (I 18), .int (I 19), .int (I 20), .ref (b 10), .ref (b 11), .ref (b 12), .ref (b 13), .ref (b 14), .ref (b 15), .int (nI q), .int (nI mm), .ref (b 16), .ref (b 17), .ref (b 18), .ref (b 19), .ref (b 20), .ref (b 21), .int (I 35), .int (I 36), .int (I 37), .ref (b 22), .int (nI bd), .int (I 40), .int (I 41), .ref (b 23), .int (I 43), .ref (b 24)])), (b 1, .inl (g 0, 32, .inl a_child)), (b 2, .inl (g 0, 50, .inl a_row))] (fun r u => ∃ (n' : Nat) (a_child' : Nat → Int32) (a_row' : Nat → Int32), (n' ≤ 8) ∧ (RowOk a_row') ∧ (∀ (G : MG) (ev9 cr9 tr9 lw9 : MA), RG G n a_child a_row ev9 cr9 tr9 lw9 (I 10) → RG (gChild c0 x0 y0 z0 G) n' a_child' a_row' ev9 cr9 tr9 lw9 (I 10) ∧ r = mChA c0 x0 y0 z0 (gN G)) ∧ u = [(b 0, .inr (9, [.int (nI n'), .ref (b 1), .ref (b 2), .int (nI p0), .ref (b 3), .ref (b 4), .ref (b 5), .ref (b 6), .ref (b 7), .ref (b 8), .int (I 10), .ref (b 9), .int (nI t), .int (I 13), .int (I 14), .int (I 15), .long W, .int (I 17), .int (I 18), .int (I 19), .int (I 20), .ref (b 10), .ref (b 11), .ref (b 12), .ref (b 13), .ref (b 14), .ref (b 15), .int (nI q), .int (nI mm), .ref (b 16), .ref (b 17), .ref (b 18), .ref (b 19), .ref (b 20), .ref (b 21), .int (I 35), .int (I 36), .int (I 37), .ref (b 22), .int (nI bd), .int (I 40), .int (I 41), .ref (b 23), .int (I 43), .ref (b 24)])), (b 1, .inl (g 0, 32, .inl a_child')), (b 2, .inl (g 0, 50, .inl a_row'))]) := by
  refine ci_in (by decide) (Nat.le_of_ble_eq_true rfl) (a0 := [b 0, b 1, b 2]) rfl (fun p e s m args below meth c A Q hQ B hr hsc => ?_)
  refine s_iload_n B dX9_child_0 rfl 1 rfl ?_
  refine s_iload_n B dX9_child_1 rfl 2 rfl ?_
  refine s_callSi B hsc (c_X9_isLike l D g c0 x0) (gw_S ml_X9_202 sm_yX9_isLike ini_RX9 co_yX9_isLike) hd_X9_isLike rfl rfl ⟨(Nat.le_of_ble_eq_true rfl), (Nat.le_of_ble_eq_true rfl)⟩ [] [0, 1, 2, 3, 4] rfl rfl rfl rfl rfl (Nat.le_of_ble_eq_true rfl) dX9_child_2 (fun r_1 u_2 hpo => ?_)
  obtain ⟨rfl, rfl⟩ := hpo
  refine s_st (st' := [.int (if (¬ c0 < 0 ∧ ¬ 5 < c0) ∧ (¬ x0 < 0 ∧ ¬ 9 < x0) then 1 else 0)]) rfl ?_
  refine s_ws (ws' := [(b 0, .inr (9, [.int (nI n), .ref (b 1), .ref (b 2), .int (nI p0), .ref (b 3), .ref (b 4), .ref (b 5), .ref (b 6), .ref (b 7), .ref (b 8), .int (I 10), .ref (b 9), .int (nI t), .int (I 13), .int (I 14), .int (I 15), .long W, .int (I 17), .int (I 18), .int (I 19), .int (I 20), .ref (b 10), .ref (b 11), .ref (b 12), .ref (b 13), .ref (b 14), .ref (b 15), .int (nI q), .int (nI mm), .ref (b 16), .ref (b 17), .ref (b 18), .ref (b 19), .ref (b 20), .ref (b 21), .int (I 35), .int (I 36), .int (I 37), .ref (b 22), .int (nI bd), .int (I 40), .int (I 41), .ref (b 23), .int (I 43), .ref (b 24)])), (b 1, .inl (g 0, 32, .inl a_child)), (b 2, .inl (g 0, 50, .inl a_row))]) rfl ?_
  refine s_bif_eq (tgt := 28) B dX9_child_5 rfl (fun h5 => ?_) (fun h5 => ?_)
  · refine s_iconst B dX9_child_28 ic_m1 ?_
    refine s_iret B hQ hr dX9_child_29 rfl ?_
    exact ⟨n, a_child, a_row, by omega, ok_a_row, (fun G ev9 cr9 tr9 lw9 H => (H.child_no (fun q => by first | exact absurd q.1 (by assumption) | exact absurd q.2.1 (by assumption) | exact absurd q.2.2 (by assumption)))), rfl⟩
  · obtain ⟨k_3, hk_4, rfl⟩ := nat_le (N := 5) h5.1.1 h5.1.2 (by decide)
    obtain ⟨k_5, hk_6, rfl⟩ := nat_le (N := 9) h5.2.1 h5.2.2 (by decide)
    refine s_iload_n B dX9_child_8 rfl 3 rfl ?_
    refine s_iconst B dX9_child_9 ic_0 ?_
    refine s_iconst B dX9_child_10 ic_5 ?_
    refine s_callSi B hsc (c_X9_in l D g y0 0 5) (gw_S ml_X9_87 sm_yX9_in ini_RX9 co_yX9_in) hd_X9_in rfl rfl ⟨(Nat.le_of_ble_eq_true rfl), (Nat.le_of_ble_eq_true rfl)⟩ [] [0, 1, 2, 3, 4] rfl rfl rfl rfl rfl (Nat.le_of_ble_eq_true rfl) dX9_child_11 (fun r_7 u_8 hpo => ?_)
    obtain ⟨rfl, rfl⟩ := hpo
    refine s_st (st' := [.int (if ¬ y0 < 0 ∧ ¬ 5 < y0 then 1 else 0)]) rfl ?_
    refine s_ws (ws' := [(b 0, .inr (9, [.int (nI n), .ref (b 1), .ref (b 2), .int (nI p0), .ref (b 3), .ref (b 4), .ref (b 5), .ref (b 6), .ref (b 7), .ref (b 8), .int (I 10), .ref (b 9), .int (nI t), .int (I 13), .int (I 14), .int (I 15), .long W, .int (I 17), .int (I 18), .int (I 19), .int (I 20), .ref (b 10), .ref (b 11), .ref (b 12), .ref (b 13), .ref (b 14), .ref (b 15), .int (nI q), .int (nI mm), .ref (b 16), .ref (b 17), .ref (b 18), .ref (b 19), .ref (b 20), .ref (b 21), .int (I 35), .int (I 36), .int (I 37), .ref (b 22), .int (nI bd), .int (I 40), .int (I 41), .ref (b 23), .int (I 43), .ref (b 24)])), (b 1, .inl (g 0, 32, .inl a_child)), (b 2, .inl (g 0, 50, .inl a_row))]) rfl ?_
    refine s_bif_eq (tgt := 28) B dX9_child_14 rfl (fun h14 => ?_) (fun h14 => ?_)
    · refine s_iconst B dX9_child_28 ic_m1 ?_
      refine s_iret B hQ hr dX9_child_29 rfl ?_
      exact ⟨n, a_child, a_row, by omega, ok_a_row, (fun G ev9 cr9 tr9 lw9 H => (H.child_no (fun q => by first | exact absurd q.1 (by assumption) | exact absurd q.2.1 (by assumption) | exact absurd q.2.2 (by assumption)))), rfl⟩
    · obtain ⟨k_9, hk_10, rfl⟩ := nat_le (N := 5) h14.1 h14.2 (by decide)
      refine s_iload B dX9_child_17 4 rfl ?_
      refine s_iconst B dX9_child_19 ic_0 ?_
      refine s_bipush B dX9_child_20 bp_9 ?_
      refine s_callSi B hsc (c_X9_in l D g z0 0 9) (gw_S ml_X9_87 sm_yX9_in ini_RX9 co_yX9_in) hd_X9_in rfl rfl ⟨(Nat.le_of_ble_eq_true rfl), (Nat.le_of_ble_eq_true rfl)⟩ [] [0, 1, 2, 3, 4] rfl rfl rfl rfl rfl (Nat.le_of_ble_eq_true rfl) dX9_child_22 (fun r_11 u_12 hpo => ?_)
      obtain ⟨rfl, rfl⟩ := hpo
      refine s_st (st' := [.int (if ¬ z0 < 0 ∧ ¬ 9 < z0 then 1 else 0)]) rfl ?_
      refine s_ws (ws' := [(b 0, .inr (9, [.int (nI n), .ref (b 1), .ref (b 2), .int (nI p0), .ref (b 3), .ref (b 4), .ref (b 5), .ref (b 6), .ref (b 7), .ref (b 8), .int (I 10), .ref (b 9), .int (nI t), .int (I 13), .int (I 14), .int (I 15), .long W, .int (I 17), .int (I 18), .int (I 19), .int (I 20), .ref (b 10), .ref (b 11), .ref (b 12), .ref (b 13), .ref (b 14), .ref (b 15), .int (nI q), .int (nI mm), .ref (b 16), .ref (b 17), .ref (b 18), .ref (b 19), .ref (b 20), .ref (b 21), .int (I 35), .int (I 36), .int (I 37), .ref (b 22), .int (nI bd), .int (I 40), .int (I 41), .ref (b 23), .int (I 43), .ref (b 24)])), (b 1, .inl (g 0, 32, .inl a_child)), (b 2, .inl (g 0, 50, .inl a_row))]) rfl ?_
      refine s_bif_ne (tgt := 30) B dX9_child_25 rfl (fun h25 => ?_) (fun h25 => ?_)
      · obtain ⟨k_13, hk_14, rfl⟩ := nat_le (N := 9) h25.1 h25.2 (by decide)
        refine s_aload_n B dX9_child_30 rfl 0 rfl ?_
        refine s_get (T := TX9) B inX9 0 rfl rfl 0 (Nat.le_of_ble_eq_true rfl) fl_X9_91 rfl rfl dX9_child_31 ?_
        refine s_bipush B dX9_child_34 bp_8 ?_
        refine s_icmp_ne (tgt := 42) B dX9_child_36 rfl (fun h36 => ?_) (fun h36 => ?_)
        · replace h36 : ¬ n = 8 := fun hh => h36 ((nI_eq (a := n) (b := 8) (by omega) (by omega)).mpr hh)
          refine s_aload_n B dX9_child_42 rfl 0 rfl ?_
          refine s_get (T := TX9) B inX9 0 rfl rfl 1 (Nat.le_of_ble_eq_true rfl) fl_X9_7 rfl rfl dX9_child_43 ?_
          refine s_iconst B dX9_child_46 ic_4 ?_
          refine s_aload_n B dX9_child_47 rfl 0 rfl ?_
          refine s_get (T := TX9) B inX9 0 rfl rfl 0 (Nat.le_of_ble_eq_true rfl) fl_X9_91 rfl rfl dX9_child_48 ?_
          refine s_imulE B dX9_child_51 (pk_mul 4 n) ?_
          refine s_iload_n B dX9_child_52 rfl 1 rfl ?_
          refine s_iastN (ws' := [_, _, _]) B 1 0 rfl rfl rfl dX9_child_53 (by omega) (by decide) ?_
          refine s_aload_n B dX9_child_54 rfl 0 rfl ?_
          refine s_get (T := TX9) B inX9 0 rfl rfl 1 (Nat.le_of_ble_eq_true rfl) fl_X9_7 rfl rfl dX9_child_55 ?_
          refine s_iconst B dX9_child_58 ic_4 ?_
          refine s_aload_n B dX9_child_59 rfl 0 rfl ?_
          refine s_get (T := TX9) B inX9 0 rfl rfl 0 (Nat.le_of_ble_eq_true rfl) fl_X9_91 rfl rfl dX9_child_60 ?_
          refine s_imulE B dX9_child_63 (pk_mul 4 n) ?_
          refine s_iconst B dX9_child_64 ic_1 ?_
          refine s_iaddE B dX9_child_65 (nI_add (4 * n) 1) ?_
          refine s_iload_n B dX9_child_66 rfl 2 rfl ?_
          refine s_iastN (ws' := [_, _, _]) B 1 0 rfl rfl rfl dX9_child_67 (by omega) (by decide) ?_
          refine s_aload_n B dX9_child_68 rfl 0 rfl ?_
          refine s_get (T := TX9) B inX9 0 rfl rfl 1 (Nat.le_of_ble_eq_true rfl) fl_X9_7 rfl rfl dX9_child_69 ?_
          refine s_iconst B dX9_child_72 ic_4 ?_
          refine s_aload_n B dX9_child_73 rfl 0 rfl ?_
          refine s_get (T := TX9) B inX9 0 rfl rfl 0 (Nat.le_of_ble_eq_true rfl) fl_X9_91 rfl rfl dX9_child_74 ?_
          refine s_imulE B dX9_child_77 (pk_mul 4 n) ?_
          refine s_iconst B dX9_child_78 ic_2 ?_
          refine s_iaddE B dX9_child_79 (nI_add (4 * n) 2) ?_
          refine s_iload_n B dX9_child_80 rfl 3 rfl ?_
          refine s_iastN (ws' := [_, _, _]) B 1 0 rfl rfl rfl dX9_child_81 (by omega) (by decide) ?_
          refine s_aload_n B dX9_child_82 rfl 0 rfl ?_
          refine s_get (T := TX9) B inX9 0 rfl rfl 1 (Nat.le_of_ble_eq_true rfl) fl_X9_7 rfl rfl dX9_child_83 ?_
          refine s_iconst B dX9_child_86 ic_4 ?_
          refine s_aload_n B dX9_child_87 rfl 0 rfl ?_
          refine s_get (T := TX9) B inX9 0 rfl rfl 0 (Nat.le_of_ble_eq_true rfl) fl_X9_91 rfl rfl dX9_child_88 ?_
          refine s_imulE B dX9_child_91 (pk_mul 4 n) ?_
          refine s_iconst B dX9_child_92 ic_3 ?_
          refine s_iaddE B dX9_child_93 (nI_add (4 * n) 3) ?_
          refine s_iload B dX9_child_94 4 rfl ?_
          refine s_iastN (ws' := [_, _, _]) B 1 0 rfl rfl rfl dX9_child_96 (by omega) (by decide) ?_
          refine s_aload_n B dX9_child_97 rfl 0 rfl ?_
          refine s_get (T := TX9) B inX9 0 rfl rfl 2 (Nat.le_of_ble_eq_true rfl) fl_X9_13 rfl rfl dX9_child_98 ?_
          refine s_iconst B dX9_child_101 ic_1 ?_
          refine s_aload_n B dX9_child_102 rfl 0 rfl ?_
          refine s_get (T := TX9) B inX9 0 rfl rfl 0 (Nat.le_of_ble_eq_true rfl) fl_X9_91 rfl rfl dX9_child_103 ?_
          refine s_iaddE B dX9_child_106 (nI_add 1 n) ?_
          refine s_iconst B dX9_child_107 ic_0 ?_
          refine s_iastN (ws' := [_, _, _]) B 2 0 rfl rfl rfl dX9_child_108 (by omega) (by decide) ?_
          refine s_aload_n B dX9_child_109 rfl 0 rfl ?_
          refine s_get (T := TX9) B inX9 0 rfl rfl 2 (Nat.le_of_ble_eq_true rfl) fl_X9_13 rfl rfl dX9_child_110 ?_
          refine s_bipush B dX9_child_113 bp_9 ?_
          refine s_aload_n B dX9_child_115 rfl 0 rfl ?_
          refine s_get (T := TX9) B inX9 0 rfl rfl 0 (Nat.le_of_ble_eq_true rfl) fl_X9_91 rfl rfl dX9_child_116 ?_
          refine s_iaddE B dX9_child_119 (nI_add 9 n) ?_
          refine s_iconst B dX9_child_120 ic_0 ?_
          refine s_iastN (ws' := [_, _, _]) B 2 0 rfl rfl rfl dX9_child_121 (by omega) (by decide) ?_
          refine s_aload_n B dX9_child_122 rfl 0 rfl ?_
          refine s_get (T := TX9) B inX9 0 rfl rfl 2 (Nat.le_of_ble_eq_true rfl) fl_X9_13 rfl rfl dX9_child_123 ?_
          refine s_bipush B dX9_child_126 bp_17 ?_
          refine s_aload_n B dX9_child_128 rfl 0 rfl ?_
          refine s_get (T := TX9) B inX9 0 rfl rfl 0 (Nat.le_of_ble_eq_true rfl) fl_X9_91 rfl rfl dX9_child_129 ?_
          refine s_iaddE B dX9_child_132 (nI_add 17 n) ?_
          refine s_iconst B dX9_child_133 ic_0 ?_
          refine s_iastN (ws' := [_, _, _]) B 2 0 rfl rfl rfl dX9_child_134 (by omega) (by decide) ?_
          refine s_aload_n B dX9_child_135 rfl 0 rfl ?_
          refine s_dup B dX9_child_136 rfl ?_
          refine s_get (T := TX9) B inX9 0 rfl rfl 0 (Nat.le_of_ble_eq_true rfl) fl_X9_91 rfl rfl dX9_child_137 ?_
          refine s_iconst B dX9_child_140 ic_1 ?_
          refine s_iaddE B dX9_child_141 (nI_add n 1) ?_
          refine s_put (T := TX9) (ws' := [_, _, _]) B inX9 tyX9_ok nmX9 0 rfl rfl 0 (Nat.le_of_ble_eq_true rfl) fl_X9_91 rfl rfl rfl rfl (Nat.le_of_ble_eq_true rfl) rfl dX9_child_142 ?_
          refine s_aload_n B dX9_child_145 rfl 0 rfl ?_
          refine s_get (T := TX9) B inX9 0 rfl rfl 0 (Nat.le_of_ble_eq_true rfl) fl_X9_91 rfl rfl dX9_child_146 ?_
          refine s_iconst B dX9_child_149 ic_1 ?_
          refine s_isub B dX9_child_150 ?_
          refine s_iret B hQ hr dX9_child_151 rfl ?_
          exact ⟨(n + 1), (upd (upd (upd (upd a_child (4 * n) (nI k_3)) ((4 * n) + 1) (nI k_5)) ((4 * n) + 2) (nI k_9)) ((4 * n) + 3) (nI k_13)), (upd (upd (upd a_row (1 + n) 0) (9 + n) 0) (17 + n) 0), by omega, (RowOk.put (RowOk.put (RowOk.put ok_a_row ⟨0, by omega, rfl⟩) ⟨0, by omega, rfl⟩) ⟨0, by omega, rfl⟩), (fun G ev9 cr9 tr9 lw9 H => (H.child_ok ⟨h5, h14, h25⟩ (by omega))), rfl⟩
        · replace h36 : n = 8 := (nI_eq (a := n) (b := 8) (by omega) (by omega)).mp h36
          refine s_bipush B dX9_child_39 bp_m2 ?_
          refine s_iret B hQ hr dX9_child_41 rfl ?_
          exact ⟨n, a_child, a_row, by omega, ok_a_row, (fun G ev9 cr9 tr9 lw9 H => (H.child_full ⟨h5, h14, h25⟩ h36)), rfl⟩
      · refine s_iconst B dX9_child_28 ic_m1 ?_
        refine s_iret B hQ hr dX9_child_29 rfl ?_
        exact ⟨n, a_child, a_row, by omega, ok_a_row, (fun G ev9 cr9 tr9 lw9 H => (H.child_no (fun q => by first | exact absurd q.1 (by assumption) | exact absurd q.2.1 (by assumption) | exact absurd q.2.2 (by assumption)))), rfl⟩
def rmX9_childOf : Room := { frames := 2, cells := 0, slots := 0, locals := 43 }
theorem hd_X9_childOf : yX9_childOf.cls = RX9 ∧ yX9_childOf.cls ≠ "java/lang/invoke/MethodHandle" ∧ yX9_childOf.cls ≠ "java/lang/invoke/VarHandle" ∧ (parseMethodDescriptor yX9_childOf.desc).map (fun d => d.parameters.length) = some 2 := by decide +kernel
set_option maxHeartbeats 4000000 in
set_option maxRecDepth 100000 in
theorem c_X9_childOf (l : Launch) (D : va_G) (g : Nat → ClassId) (b : Nat → Nat) (I : Nat → Int32) (W : Int64) (n p0 t q mm bd : Nat) (a_child : Nat → Int32) (a_row : Nat → Int32) (c0 : Int32) (w0 : Int32) (hn : n ≤ 8) (hp : p0 = 0 ∨ p0 = 25) (ht : t ≤ 240) (hq0 : q ≤ 20) (hmm : mm ≤ 20) (hbd : bd ≤ 30) (ok_a_row : RowOk a_row) : Ci l yX9_childOf (WW yX9_childOf cX9_childOf 3 (some FieldType.int)) rmX9_childOf D vwCl (TY g) [.ref (b 0), .int c0, .int w0] [(b 0, .inr (9, [.int (nI n), .ref (b 1), .ref (b 2), .int (nI p0), .ref (b 3), .ref (b 4), .ref (b 5), .ref (b 6), .ref (b 7), .ref (b 8), .int (I 10), .ref (b 9), .int (nI t), .int (I 13), .int (I 14), .int (I 15), .long W, .int (I 17), .int (I 18), .int (I 19), .int (I 20), .ref (b 10), .ref (b 11), .ref (b 12), .ref (b 13), .ref (b 14), .ref (b 15), .int (nI q), .int (nI mm), .ref (b 16), .ref (b 17), .ref (b 18), .ref (b 19), .ref (b 20), .ref (b 21), .int (I 35), .int (I 36), .int (I 37), .ref (b 22), .int (nI bd), .int (I 40), .int (I 41), .ref (b 23), .int (I 43), .ref (b 24)])), (b 1, .inl (g 0, 32, .inl a_child)), (b 2, .inl (g 0, 50, .inl a_row))] (fun r u => (∀ (G : MG) (ev9 cr9 tr9 lw9 : MA), RG G n a_child a_row ev9 cr9 tr9 lw9 (I 10) → r = aChildOf c0 w0 G) ∧ u = [(b 0, .inr (9, [.int (nI n), .ref (b 1), .ref (b 2), .int (nI p0), .ref (b 3), .ref (b 4), .ref (b 5), .ref (b 6), .ref (b 7), .ref (b 8), .int (I 10), .ref (b 9), .int (nI t), .int (I 13), .int (I 14), .int (I 15), .long W, .int (I 17), .int (I 18), .int (I 19), .int (I 20), .ref (b 10), .ref (b 11), .ref (b 12), .ref (b 13), .ref (b 14), .ref (b 15), .int (nI q), .int (nI mm), .ref (b 16), .ref (b 17), .ref (b 18), .ref (b 19), .ref (b 20), .ref (b 21), .int (I 35), .int (I 36), .int (I 37), .ref (b 22), .int (nI bd), .int (I 40), .int (I 41), .ref (b 23), .int (I 43), .ref (b 24)])), (b 1, .inl (g 0, 32, .inl a_child)), (b 2, .inl (g 0, 50, .inl a_row))]) := by
  refine ci_in (by decide) (Nat.le_of_ble_eq_true rfl) (a0 := [b 0, b 1, b 2]) rfl (fun p e s m args below meth c A Q hQ B hr hsc => ?_)
  refine s_aload_n B dX9_childOf_0 rfl 0 rfl ?_
  refine s_iload_n B dX9_childOf_1 rfl 1 rfl ?_
  refine s_callVi B hsc (c_X9_isChild l D g b (upd (upd (upd (upd I 12 (nI t)) 27 (nI q)) 28 (nI mm)) 39 (nI bd)) W n p0 c0) (gw_V ml_X9_206 im_yX9_isChild se_yX9_isChild ini_RX9 co_yX9_isChild) hd_X9_isChild rfl rfl ⟨(Nat.le_of_ble_eq_true rfl), (Nat.le_of_ble_eq_true rfl)⟩ [0] [0, 1, 2, 3, 4] rfl rfl rfl (ci := 9) (q0 := 0) rfl rfl rfl rfl rfl (Nat.le_of_ble_eq_true rfl) dX9_childOf_2 (fun r_1 u_2 hpo => ?_)
  obtain ⟨rfl, rfl⟩ := hpo
  refine s_st (st' := [.int (if ¬ c0 < 0 ∧ ¬ nI n - 1 < c0 then 1 else 0)]) rfl ?_
  refine s_ws (ws' := [(b 0, .inr (9, [.int (nI n), .ref (b 1), .ref (b 2), .int (nI p0), .ref (b 3), .ref (b 4), .ref (b 5), .ref (b 6), .ref (b 7), .ref (b 8), .int (I 10), .ref (b 9), .int (nI t), .int (I 13), .int (I 14), .int (I 15), .long W, .int (I 17), .int (I 18), .int (I 19), .int (I 20), .ref (b 10), .ref (b 11), .ref (b 12), .ref (b 13), .ref (b 14), .ref (b 15), .int (nI q), .int (nI mm), .ref (b 16), .ref (b 17), .ref (b 18), .ref (b 19), .ref (b 20), .ref (b 21), .int (I 35), .int (I 36), .int (I 37), .ref (b 22), .int (nI bd), .int (I 40), .int (I 41), .ref (b 23), .int (I 43), .ref (b 24)])), (b 1, .inl (g 0, 32, .inl a_child)), (b 2, .inl (g 0, 50, .inl a_row))]) rfl ?_
  refine s_bif_eq (tgt := 18) B dX9_childOf_5 rfl (fun h5 => ?_) (fun h5 => ?_)
  · refine s_iconst B dX9_childOf_18 ic_m1 ?_
    refine s_iret B hQ hr dX9_childOf_19 rfl ?_
    exact ⟨(fun G ev9 cr9 tr9 lw9 H => (H.childOf_no (by first | exact Or.inl (by assumption) | exact Or.inr (by assumption)))), rfl⟩
  · obtain ⟨k_3, hk_4, rfl⟩ := nat_lt1 (N := n) h5.1 h5.2 (by omega)
    refine s_iload_n B dX9_childOf_8 rfl 2 rfl ?_
    refine s_iconst B dX9_childOf_9 ic_0 ?_
    refine s_bipush B dX9_childOf_10 bp_6 ?_
    refine s_callSi B hsc (c_X9_in l D g w0 0 6) (gw_S ml_X9_87 sm_yX9_in ini_RX9 co_yX9_in) hd_X9_in rfl rfl ⟨(Nat.le_of_ble_eq_true rfl), (Nat.le_of_ble_eq_true rfl)⟩ [] [0, 1, 2, 3, 4] rfl rfl rfl rfl rfl (Nat.le_of_ble_eq_true rfl) dX9_childOf_12 (fun r_5 u_6 hpo => ?_)
    obtain ⟨rfl, rfl⟩ := hpo
    refine s_st (st' := [.int (if ¬ w0 < 0 ∧ ¬ 6 < w0 then 1 else 0)]) rfl ?_
    refine s_ws (ws' := [(b 0, .inr (9, [.int (nI n), .ref (b 1), .ref (b 2), .int (nI p0), .ref (b 3), .ref (b 4), .ref (b 5), .ref (b 6), .ref (b 7), .ref (b 8), .int (I 10), .ref (b 9), .int (nI t), .int (I 13), .int (I 14), .int (I 15), .long W, .int (I 17), .int (I 18), .int (I 19), .int (I 20), .ref (b 10), .ref (b 11), .ref (b 12), .ref (b 13), .ref (b 14), .ref (b 15), .int (nI q), .int (nI mm), .ref (b 16), .ref (b 17), .ref (b 18), .ref (b 19), .ref (b 20), .ref (b 21), .int (I 35), .int (I 36), .int (I 37), .ref (b 22), .int (nI bd), .int (I 40), .int (I 41), .ref (b 23), .int (I 43), .ref (b 24)])), (b 1, .inl (g 0, 32, .inl a_child)), (b 2, .inl (g 0, 50, .inl a_row))]) rfl ?_
    refine s_bif_ne (tgt := 20) B dX9_childOf_15 rfl (fun h15 => ?_) (fun h15 => ?_)
    · obtain ⟨k_7, hk_8, rfl⟩ := nat_le (N := 6) h15.1 h15.2 (by decide)
      refine s_iload_n B dX9_childOf_20 rfl 2 rfl ?_
      refine s_iconst B dX9_childOf_21 ic_4 ?_
      refine s_icmp_ge (tgt := 34) B dX9_childOf_22 rfl (fun h22 => ?_) (fun h22 => ?_)
      · replace h22 : 4 ≤ k_7 := (nI_leI (a := 4) (b := k_7) (by omega) (by omega)).mp h22
        refine s_aload_n B dX9_childOf_34 rfl 0 rfl ?_
        refine s_get (T := TX9) B inX9 0 rfl rfl 2 (Nat.le_of_ble_eq_true rfl) fl_X9_13 rfl rfl dX9_childOf_35 ?_
        refine s_iload_n B dX9_childOf_38 rfl 2 rfl ?_
        refine s_iconst B dX9_childOf_39 ic_4 ?_
        refine s_icmp_ne (tgt := 47) B dX9_childOf_40 rfl (fun h40 => ?_) (fun h40 => ?_)
        · replace h40 : ¬ k_7 = 4 := fun hh => h40 ((nI_eq (a := k_7) (b := 4) (by omega) (by omega)).mpr hh)
          refine s_iload_n B dX9_childOf_47 rfl 2 rfl ?_
          refine s_iconst B dX9_childOf_48 ic_5 ?_
          refine s_icmp_ne (tgt := 57) B dX9_childOf_49 rfl (fun h49 => ?_) (fun h49 => ?_)
          · replace h49 : ¬ k_7 = 5 := fun hh => h49 ((nI_eq (a := k_7) (b := 5) (by omega) (by omega)).mpr hh)
            refine s_bipush B dX9_childOf_57 bp_17 ?_
            refine s_iload_n B dX9_childOf_59 rfl 1 rfl ?_
            refine s_iaddE B dX9_childOf_60 (nI_add 17 k_3) ?_
            refine s_ialdN B 2 0 rfl rfl dX9_childOf_61 (by omega) (by decide) ?_
            refine s_iret B hQ hr dX9_childOf_62 rfl ?_
            exact ⟨(fun G ev9 cr9 tr9 lw9 H => (H.childOf_r (by omega) (by first | (obtain rfl : k_7 = 4 := (by omega); exact Or.inl ⟨rfl, rfl⟩) | (obtain rfl : k_7 = 5 := (by omega); exact Or.inr (Or.inl ⟨rfl, rfl⟩)) | (obtain rfl : k_7 = 6 := (by omega); exact Or.inr (Or.inr ⟨rfl, rfl⟩))))), rfl⟩
          · replace h49 : k_7 = 5 := (nI_eq (a := k_7) (b := 5) (by omega) (by omega)).mp h49
            refine s_bipush B dX9_childOf_52 bp_9 ?_
            refine s_goto (tgt := 59) B dX9_childOf_54 rfl ?_
            refine s_iload_n B dX9_childOf_59 rfl 1 rfl ?_
            refine s_iaddE B dX9_childOf_60 (nI_add 9 k_3) ?_
            refine s_ialdN B 2 0 rfl rfl dX9_childOf_61 (by omega) (by decide) ?_
            refine s_iret B hQ hr dX9_childOf_62 rfl ?_
            exact ⟨(fun G ev9 cr9 tr9 lw9 H => (H.childOf_r (by omega) (by first | (obtain rfl : k_7 = 4 := (by omega); exact Or.inl ⟨rfl, rfl⟩) | (obtain rfl : k_7 = 5 := (by omega); exact Or.inr (Or.inl ⟨rfl, rfl⟩)) | (obtain rfl : k_7 = 6 := (by omega); exact Or.inr (Or.inr ⟨rfl, rfl⟩))))), rfl⟩
        · replace h40 : k_7 = 4 := (nI_eq (a := k_7) (b := 4) (by omega) (by omega)).mp h40
          refine s_iconst B dX9_childOf_43 ic_1 ?_
          refine s_goto (tgt := 59) B dX9_childOf_44 rfl ?_
          refine s_iload_n B dX9_childOf_59 rfl 1 rfl ?_
          refine s_iaddE B dX9_childOf_60 (nI_add 1 k_3) ?_
          refine s_ialdN B 2 0 rfl rfl dX9_childOf_61 (by omega) (by decide) ?_
          refine s_iret B hQ hr dX9_childOf_62 rfl ?_
          exact ⟨(fun G ev9 cr9 tr9 lw9 H => (H.childOf_r (by omega) (by first | (obtain rfl : k_7 = 4 := (by omega); exact Or.inl ⟨rfl, rfl⟩) | (obtain rfl : k_7 = 5 := (by omega); exact Or.inr (Or.inl ⟨rfl, rfl⟩)) | (obtain rfl : k_7 = 6 := (by omega); exact Or.inr (Or.inr ⟨rfl, rfl⟩))))), rfl⟩
      · replace h22 : ¬ 4 ≤ k_7 := fun hh => h22 ((nI_leI (a := 4) (b := k_7) (by omega) (by omega)).mpr hh)
        refine s_aload_n B dX9_childOf_25 rfl 0 rfl ?_
        refine s_iload_n B dX9_childOf_26 rfl 1 rfl ?_
        refine s_iload_n B dX9_childOf_27 rfl 2 rfl ?_
        refine s_callVi B hsc (c_X9_its l D g b (upd (upd (upd (upd I 12 (nI t)) 27 (nI q)) 28 (nI mm)) 39 (nI bd)) W n p0 a_child k_3 k_7 (by omega) (by omega)) (gw_V ml_X9_209 im_yX9_its se_yX9_its ini_RX9 co_yX9_its) hd_X9_its rfl rfl ⟨(Nat.le_of_ble_eq_true rfl), (Nat.le_of_ble_eq_true rfl)⟩ [0, 1] [0, 1, 2, 3, 4] rfl rfl rfl (ci := 9) (q0 := 0) rfl rfl rfl rfl rfl (Nat.le_of_ble_eq_true rfl) dX9_childOf_28 (fun r_9 u_10 hpo => ?_)
        obtain ⟨rfl, rfl⟩ := hpo
        refine s_st (st' := [.int (a_child (4 * k_3 + k_7))]) rfl ?_
        refine s_ws (ws' := [(b 0, .inr (9, [.int (nI n), .ref (b 1), .ref (b 2), .int (nI p0), .ref (b 3), .ref (b 4), .ref (b 5), .ref (b 6), .ref (b 7), .ref (b 8), .int (I 10), .ref (b 9), .int (nI t), .int (I 13), .int (I 14), .int (I 15), .long W, .int (I 17), .int (I 18), .int (I 19), .int (I 20), .ref (b 10), .ref (b 11), .ref (b 12), .ref (b 13), .ref (b 14), .ref (b 15), .int (nI q), .int (nI mm), .ref (b 16), .ref (b 17), .ref (b 18), .ref (b 19), .ref (b 20), .ref (b 21), .int (I 35), .int (I 36), .int (I 37), .ref (b 22), .int (nI bd), .int (I 40), .int (I 41), .ref (b 23), .int (I 43), .ref (b 24)])), (b 1, .inl (g 0, 32, .inl a_child)), (b 2, .inl (g 0, 50, .inl a_row))]) rfl ?_
        refine s_goto (tgt := 62) B dX9_childOf_31 rfl ?_
        refine s_iret B hQ hr dX9_childOf_62 rfl ?_
        exact ⟨(fun G ev9 cr9 tr9 lw9 H => (H.childOf_c (by omega) k_7 (by omega))), rfl⟩
    · refine s_iconst B dX9_childOf_18 ic_m1 ?_
      refine s_iret B hQ hr dX9_childOf_19 rfl ?_
      exact ⟨(fun G ev9 cr9 tr9 lw9 H => (H.childOf_no (by first | exact Or.inl (by assumption) | exact Or.inr (by assumption)))), rfl⟩
def rmX9_mind : Room := { frames := 2, cells := 0, slots := 0, locals := 43 }
theorem hd_X9_mind : yX9_mind.cls = RX9 ∧ yX9_mind.cls ≠ "java/lang/invoke/MethodHandle" ∧ yX9_mind.cls ≠ "java/lang/invoke/VarHandle" ∧ (parseMethodDescriptor yX9_mind.desc).map (fun d => d.parameters.length) = some 3 := by decide +kernel
set_option maxHeartbeats 4000000 in
set_option maxRecDepth 100000 in
theorem c_X9_mind (l : Launch) (D : va_G) (g : Nat → ClassId) (b : Nat → Nat) (I : Nat → Int32) (W : Int64) (n p0 t q mm bd : Nat) (a_child : Nat → Int32) (c0 : Int32) (x0 : Int32) (y0 : Int32) (hn : n ≤ 8) (hp : p0 = 0 ∨ p0 = 25) (ht : t ≤ 240) (hq0 : q ≤ 20) (hmm : mm ≤ 20) (hbd : bd ≤ 30) : Ci l yX9_mind (WW yX9_mind cX9_mind 5 (some FieldType.int)) rmX9_mind D vwCl (TY g) [.ref (b 0), .int c0, .int x0, .int y0] [(b 0, .inr (9, [.int (nI n), .ref (b 1), .ref (b 2), .int (nI p0), .ref (b 3), .ref (b 4), .ref (b 5), .ref (b 6), .ref (b 7), .ref (b 8), .int (I 10), .ref (b 9), .int (nI t), .int (I 13), .int (I 14), .int (I 15), .long W, .int (I 17), .int (I 18), .int (I 19), .int (I 20), .ref (b 10), .ref (b 11), .ref (b 12), .ref (b 13), .ref (b 14), .ref (b 15), .int (nI q), .int (nI mm), .ref (b 16), .ref (b 17), .ref (b 18), .ref (b 19), .ref (b 20), .ref (b 21), .int (I 35), .int (I 36), .int (I 37), .ref (b 22), .int (nI bd), .int (I 40), .int (I 41), .ref (b 23), .int (I 43), .ref (b 24)])), (b 1, .inl (g 0, 32, .inl a_child))] (fun r u => ∃ (a_child' : Nat → Int32), (∀ (G : MG) (rw9 ev9 cr9 tr9 lw9 : MA), RG G n a_child rw9 ev9 cr9 tr9 lw9 (I 10) → RG (gMind c0 x0 y0 G) n a_child' rw9 ev9 cr9 tr9 lw9 (I 10) ∧ r = aMind c0 x0 y0 G) ∧ u = [(b 0, .inr (9, [.int (nI n), .ref (b 1), .ref (b 2), .int (nI p0), .ref (b 3), .ref (b 4), .ref (b 5), .ref (b 6), .ref (b 7), .ref (b 8), .int (I 10), .ref (b 9), .int (nI t), .int (I 13), .int (I 14), .int (I 15), .long W, .int (I 17), .int (I 18), .int (I 19), .int (I 20), .ref (b 10), .ref (b 11), .ref (b 12), .ref (b 13), .ref (b 14), .ref (b 15), .int (nI q), .int (nI mm), .ref (b 16), .ref (b 17), .ref (b 18), .ref (b 19), .ref (b 20), .ref (b 21), .int (I 35), .int (I 36), .int (I 37), .ref (b 22), .int (nI bd), .int (I 40), .int (I 41), .ref (b 23), .int (I 43), .ref (b 24)])), (b 1, .inl (g 0, 32, .inl a_child'))]) := by
  refine ci_in (by decide) (Nat.le_of_ble_eq_true rfl) (a0 := [b 0, b 1]) rfl (fun p e s m args below meth c A Q hQ B hr hsc => ?_)
  refine s_aload_n B dX9_mind_0 rfl 0 rfl ?_
  refine s_iload_n B dX9_mind_1 rfl 1 rfl ?_
  refine s_callVi B hsc (c_X9_isChild l D g b (upd (upd (upd (upd I 12 (nI t)) 27 (nI q)) 28 (nI mm)) 39 (nI bd)) W n p0 c0) (gw_V ml_X9_206 im_yX9_isChild se_yX9_isChild ini_RX9 co_yX9_isChild) hd_X9_isChild rfl rfl ⟨(Nat.le_of_ble_eq_true rfl), (Nat.le_of_ble_eq_true rfl)⟩ [0] [0, 1, 2, 3, 4] rfl rfl rfl (ci := 9) (q0 := 0) rfl rfl rfl rfl rfl (Nat.le_of_ble_eq_true rfl) dX9_mind_2 (fun r_1 u_2 hpo => ?_)
  obtain ⟨rfl, rfl⟩ := hpo
  refine s_st (st' := [.int (if ¬ c0 < 0 ∧ ¬ nI n - 1 < c0 then 1 else 0)]) rfl ?_
  refine s_ws (ws' := [(b 0, .inr (9, [.int (nI n), .ref (b 1), .ref (b 2), .int (nI p0), .ref (b 3), .ref (b 4), .ref (b 5), .ref (b 6), .ref (b 7), .ref (b 8), .int (I 10), .ref (b 9), .int (nI t), .int (I 13), .int (I 14), .int (I 15), .long W, .int (I 17), .int (I 18), .int (I 19), .int (I 20), .ref (b 10), .ref (b 11), .ref (b 12), .ref (b 13), .ref (b 14), .ref (b 15), .int (nI q), .int (nI mm), .ref (b 16), .ref (b 17), .ref (b 18), .ref (b 19), .ref (b 20), .ref (b 21), .int (I 35), .int (I 36), .int (I 37), .ref (b 22), .int (nI bd), .int (I 40), .int (I 41), .ref (b 23), .int (I 43), .ref (b 24)])), (b 1, .inl (g 0, 32, .inl a_child))]) rfl ?_
  refine s_bif_eq (tgt := 16) B dX9_mind_5 rfl (fun h5 => ?_) (fun h5 => ?_)
  · refine s_iconst B dX9_mind_16 ic_m1 ?_
    refine s_iret B hQ hr dX9_mind_17 rfl ?_
    exact ⟨a_child, (fun G rw9 ev9 cr9 tr9 lw9 H => (H.mind_no (by first | exact Or.inl (by assumption) | exact Or.inr (by assumption)))), rfl⟩
  · obtain ⟨k_3, hk_4, rfl⟩ := nat_lt1 (N := n) h5.1 h5.2 (by omega)
    refine s_iload_n B dX9_mind_8 rfl 2 rfl ?_
    refine s_iload_n B dX9_mind_9 rfl 3 rfl ?_
    refine s_callSi B hsc (c_X9_isLike l D g x0 y0) (gw_S ml_X9_202 sm_yX9_isLike ini_RX9 co_yX9_isLike) hd_X9_isLike rfl rfl ⟨(Nat.le_of_ble_eq_true rfl), (Nat.le_of_ble_eq_true rfl)⟩ [] [0, 1, 2, 3, 4] rfl rfl rfl rfl rfl (Nat.le_of_ble_eq_true rfl) dX9_mind_10 (fun r_5 u_6 hpo => ?_)
    obtain ⟨rfl, rfl⟩ := hpo
    refine s_st (st' := [.int (if (¬ x0 < 0 ∧ ¬ 5 < x0) ∧ (¬ y0 < 0 ∧ ¬ 9 < y0) then 1 else 0)]) rfl ?_
    refine s_ws (ws' := [(b 0, .inr (9, [.int (nI n), .ref (b 1), .ref (b 2), .int (nI p0), .ref (b 3), .ref (b 4), .ref (b 5), .ref (b 6), .ref (b 7), .ref (b 8), .int (I 10), .ref (b 9), .int (nI t), .int (I 13), .int (I 14), .int (I 15), .long W, .int (I 17), .int (I 18), .int (I 19), .int (I 20), .ref (b 10), .ref (b 11), .ref (b 12), .ref (b 13), .ref (b 14), .ref (b 15), .int (nI q), .int (nI mm), .ref (b 16), .ref (b 17), .ref (b 18), .ref (b 19), .ref (b 20), .ref (b 21), .int (I 35), .int (I 36), .int (I 37), .ref (b 22), .int (nI bd), .int (I 40), .int (I 41), .ref (b 23), .int (I 43), .ref (b 24)])), (b 1, .inl (g 0, 32, .inl a_child))]) rfl ?_
    refine s_bif_ne (tgt := 18) B dX9_mind_13 rfl (fun h13 => ?_) (fun h13 => ?_)
    · obtain ⟨k_7, hk_8, rfl⟩ := nat_le (N := 5) h13.1.1 h13.1.2 (by decide)
      obtain ⟨k_9, hk_10, rfl⟩ := nat_le (N := 9) h13.2.1 h13.2.2 (by decide)
      refine s_aload_n B dX9_mind_18 rfl 0 rfl ?_
      refine s_iload_n B dX9_mind_19 rfl 1 rfl ?_
      refine s_iconst B dX9_mind_20 ic_0 ?_
      refine s_callVi B hsc (c_X9_its l D g b (upd (upd (upd (upd I 12 (nI t)) 27 (nI q)) 28 (nI mm)) 39 (nI bd)) W n p0 a_child k_3 0 (by omega) (by omega)) (gw_V ml_X9_209 im_yX9_its se_yX9_its ini_RX9 co_yX9_its) hd_X9_its rfl rfl ⟨(Nat.le_of_ble_eq_true rfl), (Nat.le_of_ble_eq_true rfl)⟩ [0, 1] [0, 1, 2, 3, 4] rfl rfl rfl (ci := 9) (q0 := 0) rfl rfl rfl rfl rfl (Nat.le_of_ble_eq_true rfl) dX9_mind_21 (fun r_11 u_12 hpo => ?_)
      obtain ⟨rfl, rfl⟩ := hpo
      refine s_st (st' := [.int (a_child (4 * k_3 + 0))]) rfl ?_
      refine s_ws (ws' := [(b 0, .inr (9, [.int (nI n), .ref (b 1), .ref (b 2), .int (nI p0), .ref (b 3), .ref (b 4), .ref (b 5), .ref (b 6), .ref (b 7), .ref (b 8), .int (I 10), .ref (b 9), .int (nI t), .int (I 13), .int (I 14), .int (I 15), .long W, .int (I 17), .int (I 18), .int (I 19), .int (I 20), .ref (b 10), .ref (b 11), .ref (b 12), .ref (b 13), .ref (b 14), .ref (b 15), .int (nI q), .int (nI mm), .ref (b 16), .ref (b 17), .ref (b 18), .ref (b 19), .ref (b 20), .ref (b 21), .int (I 35), .int (I 36), .int (I 37), .ref (b 22), .int (nI bd), .int (I 40), .int (I 41), .ref (b 23), .int (I 43), .ref (b 24)])), (b 1, .inl (g 0, 32, .inl a_child))]) rfl ?_
      refine s_istore (lv' := [(4, _), (0, _), (1, _), (2, _), (3, _)]) B dX9_mind_24 (Nat.le_of_ble_eq_true rfl) rfl ?_
      refine s_aload_n B dX9_mind_26 rfl 1 rfl ?_
      refine s_get (T := TX9) B inX9 0 rfl rfl 1 (Nat.le_of_ble_eq_true rfl) fl_X9_7 rfl rfl dX9_mind_27 ?_
      refine s_iconst B dX9_mind_30 ic_4 ?_
      refine s_iload_n B dX9_mind_31 rfl 2 rfl ?_
      refine s_imulE B dX9_mind_32 (pk_mul 4 k_3) ?_
      refine s_iload_n B dX9_mind_33 rfl 3 rfl ?_
      refine s_iastN (ws' := [_, _]) B 1 0 rfl rfl rfl dX9_mind_34 (by omega) (by decide) ?_
      refine s_aload_n B dX9_mind_35 rfl 1 rfl ?_
      refine s_get (T := TX9) B inX9 0 rfl rfl 1 (Nat.le_of_ble_eq_true rfl) fl_X9_7 rfl rfl dX9_mind_36 ?_
      refine s_iconst B dX9_mind_39 ic_4 ?_
      refine s_iload_n B dX9_mind_40 rfl 2 rfl ?_
      refine s_imulE B dX9_mind_41 (pk_mul 4 k_3) ?_
      refine s_iconst B dX9_mind_42 ic_1 ?_
      refine s_iaddE B dX9_mind_43 (nI_add (4 * k_3) 1) ?_
      refine s_iload_n B dX9_mind_44 rfl 4 rfl ?_
      refine s_iastN (ws' := [_, _]) B 1 0 rfl rfl rfl dX9_mind_45 (by omega) (by decide) ?_
      refine s_iload B dX9_mind_46 0 rfl ?_
      refine s_iret B hQ hr dX9_mind_48 rfl ?_
      exact ⟨(upd (upd a_child (4 * k_3) (nI k_7)) ((4 * k_3) + 1) (nI k_9)), (fun G rw9 ev9 cr9 tr9 lw9 H => (H.mind_ok (by omega) h13)), rfl⟩
    · refine s_iconst B dX9_mind_16 ic_m1 ?_
      refine s_iret B hQ hr dX9_mind_17 rfl ?_
      exact ⟨a_child, (fun G rw9 ev9 cr9 tr9 lw9 H => (H.mind_no (by first | exact Or.inl (by assumption) | exact Or.inr (by assumption)))), rfl⟩
def rmX9_sick : Room := { frames := 2, cells := 0, slots := 0, locals := 43 }
theorem hd_X9_sick : yX9_sick.cls = RX9 ∧ yX9_sick.cls ≠ "java/lang/invoke/MethodHandle" ∧ yX9_sick.cls ≠ "java/lang/invoke/VarHandle" ∧ (parseMethodDescriptor yX9_sick.desc).map (fun d => d.parameters.length) = some 2 := by decide +kernel
set_option maxHeartbeats 4000000 in
set_option maxRecDepth 100000 in
theorem c_X9_sick (l : Launch) (D : va_G) (g : Nat → ClassId) (b : Nat → Nat) (I : Nat → Int32) (W : Int64) (n p0 t q mm bd : Nat) (a_row : Nat → Int32) (c0 : Int32) (x0 : Int32) (hn : n ≤ 8) (hp : p0 = 0 ∨ p0 = 25) (ht : t ≤ 240) (hq0 : q ≤ 20) (hmm : mm ≤ 20) (hbd : bd ≤ 30) (ok_a_row : RowOk a_row) : Ci l yX9_sick (WW yX9_sick cX9_sick 4 (some FieldType.int)) rmX9_sick D vwCl (TY g) [.ref (b 0), .int c0, .int x0] [(b 0, .inr (9, [.int (nI n), .ref (b 1), .ref (b 2), .int (nI p0), .ref (b 3), .ref (b 4), .ref (b 5), .ref (b 6), .ref (b 7), .ref (b 8), .int (I 10), .ref (b 9), .int (nI t), .int (I 13), .int (I 14), .int (I 15), .long W, .int (I 17), .int (I 18), .int (I 19), .int (I 20), .ref (b 10), .ref (b 11), .ref (b 12), .ref (b 13), .ref (b 14), .ref (b 15), .int (nI q), .int (nI mm), .ref (b 16), .ref (b 17), .ref (b 18), .ref (b 19), .ref (b 20), .ref (b 21), .int (I 35), .int (I 36), .int (I 37), .ref (b 22), .int (nI bd), .int (I 40), .int (I 41), .ref (b 23), .int (I 43), .ref (b 24)])), (b 2, .inl (g 0, 50, .inl a_row))] (fun r u => ∃ (a_row' : Nat → Int32), (RowOk a_row') ∧ (∀ (G : MG) (ch9 ev9 cr9 tr9 lw9 : MA), RG G n ch9 a_row ev9 cr9 tr9 lw9 (I 10) → RG (gSick c0 x0 G) n ch9 a_row' ev9 cr9 tr9 lw9 (I 10) ∧ r = aSick c0 x0 G) ∧ u = [(b 0, .inr (9, [.int (nI n), .ref (b 1), .ref (b 2), .int (nI p0), .ref (b 3), .ref (b 4), .ref (b 5), .ref (b 6), .ref (b 7), .ref (b 8), .int (I 10), .ref (b 9), .int (nI t), .int (I 13), .int (I 14), .int (I 15), .long W, .int (I 17), .int (I 18), .int (I 19), .int (I 20), .ref (b 10), .ref (b 11), .ref (b 12), .ref (b 13), .ref (b 14), .ref (b 15), .int (nI q), .int (nI mm), .ref (b 16), .ref (b 17), .ref (b 18), .ref (b 19), .ref (b 20), .ref (b 21), .int (I 35), .int (I 36), .int (I 37), .ref (b 22), .int (nI bd), .int (I 40), .int (I 41), .ref (b 23), .int (I 43), .ref (b 24)])), (b 2, .inl (g 0, 50, .inl a_row'))]) := by
  refine ci_in (by decide) (Nat.le_of_ble_eq_true rfl) (a0 := [b 0, b 2]) rfl (fun p e s m args below meth c A Q hQ B hr hsc => ?_)
  refine s_aload_n B dX9_sick_0 rfl 0 rfl ?_
  refine s_iload_n B dX9_sick_1 rfl 1 rfl ?_
  refine s_callVi B hsc (c_X9_isChild l D g b (upd (upd (upd (upd I 12 (nI t)) 27 (nI q)) 28 (nI mm)) 39 (nI bd)) W n p0 c0) (gw_V ml_X9_206 im_yX9_isChild se_yX9_isChild ini_RX9 co_yX9_isChild) hd_X9_isChild rfl rfl ⟨(Nat.le_of_ble_eq_true rfl), (Nat.le_of_ble_eq_true rfl)⟩ [0] [0, 1, 2, 3, 4] rfl rfl rfl (ci := 9) (q0 := 0) rfl rfl rfl rfl rfl (Nat.le_of_ble_eq_true rfl) dX9_sick_2 (fun r_1 u_2 hpo => ?_)
  obtain ⟨rfl, rfl⟩ := hpo
  refine s_st (st' := [.int (if ¬ c0 < 0 ∧ ¬ nI n - 1 < c0 then 1 else 0)]) rfl ?_
  refine s_ws (ws' := [(b 0, .inr (9, [.int (nI n), .ref (b 1), .ref (b 2), .int (nI p0), .ref (b 3), .ref (b 4), .ref (b 5), .ref (b 6), .ref (b 7), .ref (b 8), .int (I 10), .ref (b 9), .int (nI t), .int (I 13), .int (I 14), .int (I 15), .long W, .int (I 17), .int (I 18), .int (I 19), .int (I 20), .ref (b 10), .ref (b 11), .ref (b 12), .ref (b 13), .ref (b 14), .ref (b 15), .int (nI q), .int (nI mm), .ref (b 16), .ref (b 17), .ref (b 18), .ref (b 19), .ref (b 20), .ref (b 21), .int (I 35), .int (I 36), .int (I 37), .ref (b 22), .int (nI bd), .int (I 40), .int (I 41), .ref (b 23), .int (I 43), .ref (b 24)])), (b 2, .inl (g 0, 50, .inl a_row))]) rfl ?_
  refine s_bif_eq (tgt := 18) B dX9_sick_5 rfl (fun h5 => ?_) (fun h5 => ?_)
  · refine s_iconst B dX9_sick_18 ic_m1 ?_
    refine s_iret B hQ hr dX9_sick_19 rfl ?_
    exact ⟨a_row, ok_a_row, (fun G ch9 ev9 cr9 tr9 lw9 H => (H.sick_no (by first | exact Or.inl (by assumption) | exact Or.inr (by assumption)))), rfl⟩
  · obtain ⟨k_3, hk_4, rfl⟩ := nat_lt1 (N := n) h5.1 h5.2 (by omega)
    refine s_iload_n B dX9_sick_8 rfl 2 rfl ?_
    refine s_iconst B dX9_sick_9 ic_0 ?_
    refine s_bipush B dX9_sick_10 bp_20 ?_
    refine s_callSi B hsc (c_X9_in l D g x0 0 20) (gw_S ml_X9_87 sm_yX9_in ini_RX9 co_yX9_in) hd_X9_in rfl rfl ⟨(Nat.le_of_ble_eq_true rfl), (Nat.le_of_ble_eq_true rfl)⟩ [] [0, 1, 2, 3, 4] rfl rfl rfl rfl rfl (Nat.le_of_ble_eq_true rfl) dX9_sick_12 (fun r_5 u_6 hpo => ?_)
    obtain ⟨rfl, rfl⟩ := hpo
    refine s_st (st' := [.int (if ¬ x0 < 0 ∧ ¬ 20 < x0 then 1 else 0)]) rfl ?_
    refine s_ws (ws' := [(b 0, .inr (9, [.int (nI n), .ref (b 1), .ref (b 2), .int (nI p0), .ref (b 3), .ref (b 4), .ref (b 5), .ref (b 6), .ref (b 7), .ref (b 8), .int (I 10), .ref (b 9), .int (nI t), .int (I 13), .int (I 14), .int (I 15), .long W, .int (I 17), .int (I 18), .int (I 19), .int (I 20), .ref (b 10), .ref (b 11), .ref (b 12), .ref (b 13), .ref (b 14), .ref (b 15), .int (nI q), .int (nI mm), .ref (b 16), .ref (b 17), .ref (b 18), .ref (b 19), .ref (b 20), .ref (b 21), .int (I 35), .int (I 36), .int (I 37), .ref (b 22), .int (nI bd), .int (I 40), .int (I 41), .ref (b 23), .int (I 43), .ref (b 24)])), (b 2, .inl (g 0, 50, .inl a_row))]) rfl ?_
    refine s_bif_ne (tgt := 20) B dX9_sick_15 rfl (fun h15 => ?_) (fun h15 => ?_)
    · obtain ⟨k_7, hk_8, rfl⟩ := nat_le (N := 20) h15.1 h15.2 (by decide)
      refine s_aload_n B dX9_sick_20 rfl 0 rfl ?_
      refine s_get (T := TX9) B inX9 0 rfl rfl 2 (Nat.le_of_ble_eq_true rfl) fl_X9_13 rfl rfl dX9_sick_21 ?_
      refine s_iconst B dX9_sick_24 ic_1 ?_
      refine s_iload_n B dX9_sick_25 rfl 1 rfl ?_
      refine s_iaddE B dX9_sick_26 (nI_add 1 k_3) ?_
      refine s_ialdN B 1 0 rfl rfl dX9_sick_27 (by omega) (by decide) ?_
      refine s_istore_n (lv' := [(3, _), (0, _), (1, _), (2, _)]) B dX9_sick_28 rfl (Nat.le_of_ble_eq_true rfl) rfl ?_
      refine s_aload_n B dX9_sick_29 rfl 1 rfl ?_
      refine s_get (T := TX9) B inX9 0 rfl rfl 2 (Nat.le_of_ble_eq_true rfl) fl_X9_13 rfl rfl dX9_sick_30 ?_
      refine s_iconst B dX9_sick_33 ic_1 ?_
      refine s_iload_n B dX9_sick_34 rfl 2 rfl ?_
      refine s_iaddE B dX9_sick_35 (nI_add 1 k_3) ?_
      refine s_iload_n B dX9_sick_36 rfl 3 rfl ?_
      refine s_iastN (ws' := [_, _]) B 1 0 rfl rfl rfl dX9_sick_37 (by omega) (by decide) ?_
      refine s_iload_n B dX9_sick_38 rfl 0 rfl ?_
      refine s_iret B hQ hr dX9_sick_39 rfl ?_
      exact ⟨(upd a_row (1 + k_3) (nI k_7)), (RowOk.set ok_a_row (by omega) (by omega)), (fun G ch9 ev9 cr9 tr9 lw9 H => (H.sick_ok (by omega) h15)), rfl⟩
    · refine s_iconst B dX9_sick_18 ic_m1 ?_
      refine s_iret B hQ hr dX9_sick_19 rfl ?_
      exact ⟨a_row, ok_a_row, (fun G ch9 ev9 cr9 tr9 lw9 H => (H.sick_no (by first | exact Or.inl (by assumption) | exact Or.inr (by assumption)))), rfl⟩
def rmX9_event : Room := { frames := 2, cells := 0, slots := 0, locals := 42 }
theorem hd_X9_event : yX9_event.cls = RX9 ∧ yX9_event.cls ≠ "java/lang/invoke/MethodHandle" ∧ yX9_event.cls ≠ "java/lang/invoke/VarHandle" ∧ (parseMethodDescriptor yX9_event.desc).map (fun d => d.parameters.length) = some 2 := by decide +kernel
set_option maxHeartbeats 4000000 in
set_option maxRecDepth 100000 in
theorem c_X9_event (l : Launch) (D : va_G) (g : Nat → ClassId) (b : Nat → Nat) (I : Nat → Int32) (W : Int64) (n p0 t q mm bd : Nat) (a_events : Nat → Int32) (c0 : Int32) (x0 : Int32) (hn : n ≤ 8) (hp : p0 = 0 ∨ p0 = 25) (ht : t ≤ 240) (hq0 : q ≤ 20) (hmm : mm ≤ 20) (hbd : bd ≤ 30) : Ci l yX9_event (WW yX9_event cX9_event 4 (some FieldType.int)) rmX9_event D vwCl (TY g) [.ref (b 0), .int c0, .int x0] [(b 0, .inr (9, [.int (nI n), .ref (b 1), .ref (b 2), .int (nI p0), .ref (b 3), .ref (b 4), .ref (b 5), .ref (b 6), .ref (b 7), .ref (b 8), .int (I 10), .ref (b 9), .int (nI t), .int (I 13), .int (I 14), .int (I 15), .long W, .int (I 17), .int (I 18), .int (I 19), .int (I 20), .ref (b 10), .ref (b 11), .ref (b 12), .ref (b 13), .ref (b 14), .ref (b 15), .int (nI q), .int (nI mm), .ref (b 16), .ref (b 17), .ref (b 18), .ref (b 19), .ref (b 20), .ref (b 21), .int (I 35), .int (I 36), .int (I 37), .ref (b 22), .int (nI bd), .int (I 40), .int (I 41), .ref (b 23), .int (I 43), .ref (b 24)])), (b 3, .inl (g 0, 40, .inl a_events))] (fun r u => ∃ (a_events' : Nat → Int32), (∀ (G : MG) (ch9 rw9 cr9 tr9 lw9 : MA), RG G n ch9 rw9 a_events cr9 tr9 lw9 (I 10) → RG (gEvent c0 x0 G) n ch9 rw9 a_events' cr9 tr9 lw9 (I 10) ∧ r = aEvent c0 x0 G) ∧ u = [(b 0, .inr (9, [.int (nI n), .ref (b 1), .ref (b 2), .int (nI p0), .ref (b 3), .ref (b 4), .ref (b 5), .ref (b 6), .ref (b 7), .ref (b 8), .int (I 10), .ref (b 9), .int (nI t), .int (I 13), .int (I 14), .int (I 15), .long W, .int (I 17), .int (I 18), .int (I 19), .int (I 20), .ref (b 10), .ref (b 11), .ref (b 12), .ref (b 13), .ref (b 14), .ref (b 15), .int (nI q), .int (nI mm), .ref (b 16), .ref (b 17), .ref (b 18), .ref (b 19), .ref (b 20), .ref (b 21), .int (I 35), .int (I 36), .int (I 37), .ref (b 22), .int (nI bd), .int (I 40), .int (I 41), .ref (b 23), .int (I 43), .ref (b 24)])), (b 3, .inl (g 0, 40, .inl a_events'))]) := by
  refine ci_in (by decide) (Nat.le_of_ble_eq_true rfl) (a0 := [b 0, b 3]) rfl (fun p e s m args below meth c A Q hQ B hr hsc => ?_)
  refine s_iload_n B dX9_event_0 rfl 1 rfl ?_
  refine s_callSi B hsc (c_X9_isDay l D g c0) (gw_S ml_X9_212 sm_yX9_isDay ini_RX9 co_yX9_isDay) hd_X9_isDay rfl rfl ⟨(Nat.le_of_ble_eq_true rfl), (Nat.le_of_ble_eq_true rfl)⟩ [] [0, 1, 2, 3, 4] rfl rfl rfl rfl rfl (Nat.le_of_ble_eq_true rfl) dX9_event_1 (fun r_1 u_2 hpo => ?_)
  obtain ⟨rfl, rfl⟩ := hpo
  refine s_st (st' := [.int (if ¬ c0 < 0 ∧ ¬ 39 < c0 then 1 else 0)]) rfl ?_
  refine s_ws (ws' := [(b 0, .inr (9, [.int (nI n), .ref (b 1), .ref (b 2), .int (nI p0), .ref (b 3), .ref (b 4), .ref (b 5), .ref (b 6), .ref (b 7), .ref (b 8), .int (I 10), .ref (b 9), .int (nI t), .int (I 13), .int (I 14), .int (I 15), .long W, .int (I 17), .int (I 18), .int (I 19), .int (I 20), .ref (b 10), .ref (b 11), .ref (b 12), .ref (b 13), .ref (b 14), .ref (b 15), .int (nI q), .int (nI mm), .ref (b 16), .ref (b 17), .ref (b 18), .ref (b 19), .ref (b 20), .ref (b 21), .int (I 35), .int (I 36), .int (I 37), .ref (b 22), .int (nI bd), .int (I 40), .int (I 41), .ref (b 23), .int (I 43), .ref (b 24)])), (b 3, .inl (g 0, 40, .inl a_events))]) rfl ?_
  refine s_bif_eq (tgt := 17) B dX9_event_4 rfl (fun h4 => ?_) (fun h4 => ?_)
  · refine s_iconst B dX9_event_17 ic_m1 ?_
    refine s_iret B hQ hr dX9_event_18 rfl ?_
    exact ⟨a_events, (fun G ch9 rw9 cr9 tr9 lw9 H => (H.event_no (by first | exact Or.inl (by assumption) | exact Or.inr (by assumption)))), rfl⟩
  · obtain ⟨k_3, hk_4, rfl⟩ := nat_le (N := 39) h4.1 h4.2 (by decide)
    refine s_iload_n B dX9_event_7 rfl 2 rfl ?_
    refine s_iconst B dX9_event_8 ic_0 ?_
    refine s_bipush B dX9_event_9 bp_31 ?_
    refine s_callSi B hsc (c_X9_in l D g x0 0 31) (gw_S ml_X9_87 sm_yX9_in ini_RX9 co_yX9_in) hd_X9_in rfl rfl ⟨(Nat.le_of_ble_eq_true rfl), (Nat.le_of_ble_eq_true rfl)⟩ [] [0, 1, 2, 3, 4] rfl rfl rfl rfl rfl (Nat.le_of_ble_eq_true rfl) dX9_event_11 (fun r_5 u_6 hpo => ?_)
    obtain ⟨rfl, rfl⟩ := hpo
    refine s_st (st' := [.int (if ¬ x0 < 0 ∧ ¬ 31 < x0 then 1 else 0)]) rfl ?_
    refine s_ws (ws' := [(b 0, .inr (9, [.int (nI n), .ref (b 1), .ref (b 2), .int (nI p0), .ref (b 3), .ref (b 4), .ref (b 5), .ref (b 6), .ref (b 7), .ref (b 8), .int (I 10), .ref (b 9), .int (nI t), .int (I 13), .int (I 14), .int (I 15), .long W, .int (I 17), .int (I 18), .int (I 19), .int (I 20), .ref (b 10), .ref (b 11), .ref (b 12), .ref (b 13), .ref (b 14), .ref (b 15), .int (nI q), .int (nI mm), .ref (b 16), .ref (b 17), .ref (b 18), .ref (b 19), .ref (b 20), .ref (b 21), .int (I 35), .int (I 36), .int (I 37), .ref (b 22), .int (nI bd), .int (I 40), .int (I 41), .ref (b 23), .int (I 43), .ref (b 24)])), (b 3, .inl (g 0, 40, .inl a_events))]) rfl ?_
    refine s_bif_ne (tgt := 19) B dX9_event_14 rfl (fun h14 => ?_) (fun h14 => ?_)
    · obtain ⟨k_7, hk_8, rfl⟩ := nat_le (N := 31) h14.1 h14.2 (by decide)
      refine s_aload_n B dX9_event_19 rfl 0 rfl ?_
      refine s_get (T := TX9) B inX9 0 rfl rfl 4 (Nat.le_of_ble_eq_true rfl) fl_X9_16 rfl rfl dX9_event_20 ?_
      refine s_iload_n B dX9_event_23 rfl 1 rfl ?_
      refine s_ialdN B 1 0 rfl rfl dX9_event_24 (by omega) (by decide) ?_
      refine s_istore_n (lv' := [(3, _), (0, _), (1, _), (2, _)]) B dX9_event_25 rfl (Nat.le_of_ble_eq_true rfl) rfl ?_
      refine s_aload_n B dX9_event_26 rfl 1 rfl ?_
      refine s_get (T := TX9) B inX9 0 rfl rfl 4 (Nat.le_of_ble_eq_true rfl) fl_X9_16 rfl rfl dX9_event_27 ?_
      refine s_iload_n B dX9_event_30 rfl 2 rfl ?_
      refine s_iload_n B dX9_event_31 rfl 3 rfl ?_
      refine s_iastN (ws' := [_, _]) B 1 0 rfl rfl rfl dX9_event_32 (by omega) (by decide) ?_
      refine s_iload_n B dX9_event_33 rfl 0 rfl ?_
      refine s_iret B hQ hr dX9_event_34 rfl ?_
      exact ⟨(upd a_events k_3 (nI k_7)), (fun G ch9 rw9 cr9 tr9 lw9 H => (H.event_ok (by omega) h14)), rfl⟩
    · refine s_iconst B dX9_event_17 ic_m1 ?_
      refine s_iret B hQ hr dX9_event_18 rfl ?_
      exact ⟨a_events, (fun G ch9 rw9 cr9 tr9 lw9 H => (H.event_no (by first | exact Or.inl (by assumption) | exact Or.inr (by assumption)))), rfl⟩
def rmX9_dayOf : Room := { frames := 2, cells := 0, slots := 0, locals := 42 }
theorem hd_X9_dayOf : yX9_dayOf.cls = RX9 ∧ yX9_dayOf.cls ≠ "java/lang/invoke/MethodHandle" ∧ yX9_dayOf.cls ≠ "java/lang/invoke/VarHandle" ∧ (parseMethodDescriptor yX9_dayOf.desc).map (fun d => d.parameters.length) = some 2 := by decide +kernel
set_option maxHeartbeats 4000000 in
set_option maxRecDepth 100000 in
theorem c_X9_dayOf (l : Launch) (D : va_G) (g : Nat → ClassId) (b : Nat → Nat) (I : Nat → Int32) (W : Int64) (n p0 t q mm bd : Nat) (a_events : Nat → Int32) (a_crosses : Nat → Int32) (a_truth : Nat → Int32) (c0 : Int32) (x0 : Int32) (hn : n ≤ 8) (hp : p0 = 0 ∨ p0 = 25) (ht : t ≤ 240) (hq0 : q ≤ 20) (hmm : mm ≤ 20) (hbd : bd ≤ 30) : Ci l yX9_dayOf (WW yX9_dayOf cX9_dayOf 3 (some FieldType.int)) rmX9_dayOf D vwCl (TY g) [.ref (b 0), .int c0, .int x0] [(b 0, .inr (9, [.int (nI n), .ref (b 1), .ref (b 2), .int (nI p0), .ref (b 3), .ref (b 4), .ref (b 5), .ref (b 6), .ref (b 7), .ref (b 8), .int (I 10), .ref (b 9), .int (nI t), .int (I 13), .int (I 14), .int (I 15), .long W, .int (I 17), .int (I 18), .int (I 19), .int (I 20), .ref (b 10), .ref (b 11), .ref (b 12), .ref (b 13), .ref (b 14), .ref (b 15), .int (nI q), .int (nI mm), .ref (b 16), .ref (b 17), .ref (b 18), .ref (b 19), .ref (b 20), .ref (b 21), .int (I 35), .int (I 36), .int (I 37), .ref (b 22), .int (nI bd), .int (I 40), .int (I 41), .ref (b 23), .int (I 43), .ref (b 24)])), (b 3, .inl (g 0, 40, .inl a_events)), (b 4, .inl (g 0, 40, .inl a_crosses)), (b 5, .inl (g 0, 40, .inl a_truth))] (fun r u => (∀ (G : MG) (ch9 rw9 lw9 : MA), RG G n ch9 rw9 a_events a_crosses a_truth lw9 (I 10) → r = aDayOf c0 x0 G) ∧ u = [(b 0, .inr (9, [.int (nI n), .ref (b 1), .ref (b 2), .int (nI p0), .ref (b 3), .ref (b 4), .ref (b 5), .ref (b 6), .ref (b 7), .ref (b 8), .int (I 10), .ref (b 9), .int (nI t), .int (I 13), .int (I 14), .int (I 15), .long W, .int (I 17), .int (I 18), .int (I 19), .int (I 20), .ref (b 10), .ref (b 11), .ref (b 12), .ref (b 13), .ref (b 14), .ref (b 15), .int (nI q), .int (nI mm), .ref (b 16), .ref (b 17), .ref (b 18), .ref (b 19), .ref (b 20), .ref (b 21), .int (I 35), .int (I 36), .int (I 37), .ref (b 22), .int (nI bd), .int (I 40), .int (I 41), .ref (b 23), .int (I 43), .ref (b 24)])), (b 3, .inl (g 0, 40, .inl a_events)), (b 4, .inl (g 0, 40, .inl a_crosses)), (b 5, .inl (g 0, 40, .inl a_truth))]) := by
  refine ci_in (by decide) (Nat.le_of_ble_eq_true rfl) (a0 := [b 0, b 3, b 4, b 5]) rfl (fun p e s m args below meth c A Q hQ B hr hsc => ?_)
  refine s_iload_n B dX9_dayOf_0 rfl 1 rfl ?_
  refine s_callSi B hsc (c_X9_isDay l D g c0) (gw_S ml_X9_212 sm_yX9_isDay ini_RX9 co_yX9_isDay) hd_X9_isDay rfl rfl ⟨(Nat.le_of_ble_eq_true rfl), (Nat.le_of_ble_eq_true rfl)⟩ [] [0, 1, 2, 3, 4] rfl rfl rfl rfl rfl (Nat.le_of_ble_eq_true rfl) dX9_dayOf_1 (fun r_1 u_2 hpo => ?_)
  obtain ⟨rfl, rfl⟩ := hpo
  refine s_st (st' := [.int (if ¬ c0 < 0 ∧ ¬ 39 < c0 then 1 else 0)]) rfl ?_
  refine s_ws (ws' := [(b 0, .inr (9, [.int (nI n), .ref (b 1), .ref (b 2), .int (nI p0), .ref (b 3), .ref (b 4), .ref (b 5), .ref (b 6), .ref (b 7), .ref (b 8), .int (I 10), .ref (b 9), .int (nI t), .int (I 13), .int (I 14), .int (I 15), .long W, .int (I 17), .int (I 18), .int (I 19), .int (I 20), .ref (b 10), .ref (b 11), .ref (b 12), .ref (b 13), .ref (b 14), .ref (b 15), .int (nI q), .int (nI mm), .ref (b 16), .ref (b 17), .ref (b 18), .ref (b 19), .ref (b 20), .ref (b 21), .int (I 35), .int (I 36), .int (I 37), .ref (b 22), .int (nI bd), .int (I 40), .int (I 41), .ref (b 23), .int (I 43), .ref (b 24)])), (b 3, .inl (g 0, 40, .inl a_events)), (b 4, .inl (g 0, 40, .inl a_crosses)), (b 5, .inl (g 0, 40, .inl a_truth))]) rfl ?_
  refine s_bif_ne (tgt := 9) B dX9_dayOf_4 rfl (fun h4 => ?_) (fun h4 => ?_)
  · obtain ⟨k_3, hk_4, rfl⟩ := nat_le (N := 39) h4.1 h4.2 (by decide)
    refine s_iload_n B dX9_dayOf_9 rfl 2 rfl ?_
    refine s_if_ne (tgt := 22) B dX9_dayOf_10 rfl (fun h10 => ?_) (fun h10 => ?_)
    · refine s_iload_n B dX9_dayOf_22 rfl 2 rfl ?_
      refine s_iconst B dX9_dayOf_23 ic_1 ?_
      refine s_icmp_ne (tgt := 33) B dX9_dayOf_24 rfl (fun h24 => ?_) (fun h24 => ?_)
      · refine s_iload_n B dX9_dayOf_33 rfl 2 rfl ?_
        refine s_iconst B dX9_dayOf_34 ic_2 ?_
        refine s_icmp_ne (tgt := 47) B dX9_dayOf_35 rfl (fun h35 => ?_) (fun h35 => ?_)
        · refine s_iload_n B dX9_dayOf_47 rfl 2 rfl ?_
          refine s_iconst B dX9_dayOf_48 ic_3 ?_
          refine s_icmp_ne (tgt := 61) B dX9_dayOf_49 rfl (fun h49 => ?_) (fun h49 => ?_)
          · refine s_iconst B dX9_dayOf_61 ic_m1 ?_
            refine s_iret B hQ hr dX9_dayOf_62 rfl ?_
            exact ⟨(fun G ch9 rw9 lw9 H => (H.dayOf_ok (by omega) (Or.inr (Or.inr (Or.inr (Or.inr ⟨h10, h24, h35, h49, rfl⟩)))))), rfl⟩
          · refine s_aload_n B dX9_dayOf_52 rfl 0 rfl ?_
            refine s_get (T := TX9) B inX9 0 rfl rfl 6 (Nat.le_of_ble_eq_true rfl) fl_X9_22 rfl rfl dX9_dayOf_53 ?_
            refine s_iload_n B dX9_dayOf_56 rfl 1 rfl ?_
            refine s_ialdN B 3 0 rfl rfl dX9_dayOf_57 (by omega) (by decide) ?_
            refine s_goto (tgt := 62) B dX9_dayOf_58 rfl ?_
            refine s_iret B hQ hr dX9_dayOf_62 rfl ?_
            exact ⟨(fun G ch9 rw9 lw9 H => (H.dayOf_ok (by omega) (Or.inr (Or.inr (Or.inr (Or.inl ⟨h10, h24, h35, h49, rfl⟩)))))), rfl⟩
        · refine s_aload_n B dX9_dayOf_38 rfl 0 rfl ?_
          refine s_get (T := TX9) B inX9 0 rfl rfl 5 (Nat.le_of_ble_eq_true rfl) fl_X9_19 rfl rfl dX9_dayOf_39 ?_
          refine s_iload_n B dX9_dayOf_42 rfl 1 rfl ?_
          refine s_ialdN B 2 0 rfl rfl dX9_dayOf_43 (by omega) (by decide) ?_
          refine s_goto (tgt := 62) B dX9_dayOf_44 rfl ?_
          refine s_iret B hQ hr dX9_dayOf_62 rfl ?_
          exact ⟨(fun G ch9 rw9 lw9 H => (H.dayOf_ok (by omega) (Or.inr (Or.inr (Or.inl ⟨h10, h24, h35, rfl⟩))))), rfl⟩
      · refine s_iload_n B dX9_dayOf_27 rfl 1 rfl ?_
        refine s_iconst B dX9_dayOf_28 ic_5 ?_
        refine s_irem B dX9_dayOf_29 (by decide) ?_
        refine s_goto (tgt := 62) B dX9_dayOf_30 rfl ?_
        refine s_iret B hQ hr dX9_dayOf_62 rfl ?_
        exact ⟨(fun G ch9 rw9 lw9 H => (H.dayOf_ok (by omega) (Or.inr (Or.inl ⟨h10, h24, rfl⟩)))), rfl⟩
    · refine s_aload_n B dX9_dayOf_13 rfl 0 rfl ?_
      refine s_get (T := TX9) B inX9 0 rfl rfl 4 (Nat.le_of_ble_eq_true rfl) fl_X9_16 rfl rfl dX9_dayOf_14 ?_
      refine s_iload_n B dX9_dayOf_17 rfl 1 rfl ?_
      refine s_ialdN B 1 0 rfl rfl dX9_dayOf_18 (by omega) (by decide) ?_
      refine s_goto (tgt := 62) B dX9_dayOf_19 rfl ?_
      refine s_iret B hQ hr dX9_dayOf_62 rfl ?_
      exact ⟨(fun G ch9 rw9 lw9 H => (H.dayOf_ok (by omega) (Or.inl ⟨h10, rfl⟩))), rfl⟩
  · refine s_iconst B dX9_dayOf_7 ic_m1 ?_
    refine s_iret B hQ hr dX9_dayOf_8 rfl ?_
    exact ⟨(fun G ch9 rw9 lw9 H => (H.dayOf_no (Or.inl h4))), rfl⟩
def rmX9_would : Room := { frames := 4, cells := 0, slots := 0, locals := 96 }
theorem hd_X9_would : yX9_would.cls = RX9 ∧ yX9_would.cls ≠ "java/lang/invoke/MethodHandle" ∧ yX9_would.cls ≠ "java/lang/invoke/VarHandle" ∧ (parseMethodDescriptor yX9_would.desc).map (fun d => d.parameters.length) = some 1 := by decide +kernel
set_option maxHeartbeats 4000000 in
set_option maxRecDepth 100000 in
theorem c_X9_would (l : Launch) (D : va_G) (g : Nat → ClassId) (b : Nat → Nat) (I : Nat → Int32) (W : Int64) (n p0 t q mm bd : Nat) (a_child : Nat → Int32) (a_row : Nat → Int32) (a_events : Nat → Int32) (a_laws : Nat → Int32) (c0 : Int32) (hn : n ≤ 8) (hp : p0 = 0 ∨ p0 = 25) (ht : t ≤ 240) (hq0 : q ≤ 20) (hmm : mm ≤ 20) (hbd : bd ≤ 30) (ok_a_row : RowOk a_row) : Ci l yX9_would (WW yX9_would cX9_would 2 (some FieldType.int)) rmX9_would D vwCl (TY g) [.ref (b 0), .int c0] [(b 0, .inr (9, [.int (nI n), .ref (b 1), .ref (b 2), .int (nI 0), .ref (b 3), .ref (b 4), .ref (b 5), .ref (b 6), .ref (b 7), .ref (b 8), .int (I 10), .ref (b 9), .int (nI t), .int (I 13), .int (I 14), .int (I 15), .long W, .int (I 17), .int (I 18), .int (I 19), .int (I 20), .ref (b 10), .ref (b 11), .ref (b 12), .ref (b 13), .ref (b 14), .ref (b 15), .int (nI q), .int (nI mm), .ref (b 16), .ref (b 17), .ref (b 18), .ref (b 19), .ref (b 20), .ref (b 21), .int (I 35), .int (I 36), .int (I 37), .ref (b 22), .int (nI bd), .int (I 40), .int (I 41), .ref (b 23), .int (I 43), .ref (b 24)])), (b 1, .inl (g 0, 32, .inl a_child)), (b 2, .inl (g 0, 50, .inl a_row)), (b 3, .inl (g 0, 40, .inl a_events)), (b 6, .inl (g 0, 4, .inl a_laws))] (fun r u => (∀ (G : MG) (cr9 tr9 : MA), RG G n a_child a_row a_events cr9 tr9 a_laws (I 10) → r = aWould c0 G) ∧ u = [(b 0, .inr (9, [.int (nI n), .ref (b 1), .ref (b 2), .int (nI 0), .ref (b 3), .ref (b 4), .ref (b 5), .ref (b 6), .ref (b 7), .ref (b 8), .int (I 10), .ref (b 9), .int (nI t), .int (I 13), .int (I 14), .int (I 15), .long W, .int (I 17), .int (I 18), .int (I 19), .int (I 20), .ref (b 10), .ref (b 11), .ref (b 12), .ref (b 13), .ref (b 14), .ref (b 15), .int (nI q), .int (nI mm), .ref (b 16), .ref (b 17), .ref (b 18), .ref (b 19), .ref (b 20), .ref (b 21), .int (I 35), .int (I 36), .int (I 37), .ref (b 22), .int (nI bd), .int (I 40), .int (I 41), .ref (b 23), .int (I 43), .ref (b 24)])), (b 1, .inl (g 0, 32, .inl a_child)), (b 2, .inl (g 0, 50, .inl a_row)), (b 3, .inl (g 0, 40, .inl a_events)), (b 6, .inl (g 0, 4, .inl a_laws))]) := by
  refine ci_in (by decide) (Nat.le_of_ble_eq_true rfl) (a0 := [b 0, b 1, b 2, b 3, b 6]) rfl (fun p e s m args below meth c A Q hQ B hr hsc => ?_)
  refine s_aload_n B dX9_would_0 rfl 0 rfl ?_
  refine s_iload_n B dX9_would_1 rfl 1 rfl ?_
  refine s_callVi B hsc (c_X9_isChild l D g b (upd (upd (upd (upd I 12 (nI t)) 27 (nI q)) 28 (nI mm)) 39 (nI bd)) W n 0 c0) (gw_V ml_X9_206 im_yX9_isChild se_yX9_isChild ini_RX9 co_yX9_isChild) hd_X9_isChild rfl rfl ⟨(Nat.le_of_ble_eq_true rfl), (Nat.le_of_ble_eq_true rfl)⟩ [0] [0, 1, 2, 3, 4] rfl rfl rfl (ci := 9) (q0 := 0) rfl rfl rfl rfl rfl (Nat.le_of_ble_eq_true rfl) dX9_would_2 (fun r_1 u_2 hpo => ?_)
  obtain ⟨rfl, rfl⟩ := hpo
  refine s_st (st' := [.int (if ¬ c0 < 0 ∧ ¬ nI n - 1 < c0 then 1 else 0)]) rfl ?_
  refine s_ws (ws' := [(b 0, .inr (9, [.int (nI n), .ref (b 1), .ref (b 2), .int (nI 0), .ref (b 3), .ref (b 4), .ref (b 5), .ref (b 6), .ref (b 7), .ref (b 8), .int (I 10), .ref (b 9), .int (nI t), .int (I 13), .int (I 14), .int (I 15), .long W, .int (I 17), .int (I 18), .int (I 19), .int (I 20), .ref (b 10), .ref (b 11), .ref (b 12), .ref (b 13), .ref (b 14), .ref (b 15), .int (nI q), .int (nI mm), .ref (b 16), .ref (b 17), .ref (b 18), .ref (b 19), .ref (b 20), .ref (b 21), .int (I 35), .int (I 36), .int (I 37), .ref (b 22), .int (nI bd), .int (I 40), .int (I 41), .ref (b 23), .int (I 43), .ref (b 24)])), (b 1, .inl (g 0, 32, .inl a_child)), (b 2, .inl (g 0, 50, .inl a_row)), (b 3, .inl (g 0, 40, .inl a_events)), (b 6, .inl (g 0, 4, .inl a_laws))]) rfl ?_
  refine s_bif_ne (tgt := 10) B dX9_would_5 rfl (fun h5 => ?_) (fun h5 => ?_)
  · obtain ⟨k_3, hk_4, rfl⟩ := nat_lt1 (N := n) h5.1 h5.2 (by omega)
    refine s_aload_n B dX9_would_10 rfl 0 rfl ?_
    refine s_get (T := TX9) B inX9 0 rfl rfl 2 (Nat.le_of_ble_eq_true rfl) fl_X9_13 rfl rfl dX9_would_11 ?_
    refine s_iconst B dX9_would_14 ic_0 ?_
    refine s_ialdN B 2 0 rfl rfl dX9_would_15 (by decide) (by decide) ?_
    obtain ⟨d_5, hd_6, hr__7⟩ : le40 (a_row 0) := RowOk.at ok_a_row (by omega)
    refine s_st (st' := [.int (nI d_5)]) (by rw [hr__7]) ?_
    refine s_bipush B dX9_would_16 bp_40 ?_
    refine s_icmp_ne (tgt := 26) B dX9_would_18 rfl (fun h18 => ?_) (fun h18 => ?_)
    · replace h18 : ¬ d_5 = 40 := fun hh => h18 ((nI_eq (a := d_5) (b := 40) (by omega) (by omega)).mpr hh)
      refine s_aload_n B dX9_would_26 rfl 0 rfl ?_
      refine s_iload_n B dX9_would_27 rfl 1 rfl ?_
      obtain ⟨d_8, hd_9, hr__10⟩ : lt40 (a_row 0) := by first | assumption | (refine ⟨_, ?_, by assumption⟩; omega)
      refine s_callVi B hsc (c_X9_wouldBe l D g b (upd (upd (upd (upd I 12 (nI t)) 27 (nI q)) 28 (nI mm)) 39 (nI bd)) W n 0 a_child a_row a_events a_laws k_3 d_8 (by omega) (by omega) hd_9 hr__10) (gw_V ml_X9_229 im_yX9_wouldBe se_yX9_wouldBe ini_RX9 co_yX9_wouldBe) hd_X9_wouldBe rfl rfl ⟨(Nat.le_of_ble_eq_true rfl), (Nat.le_of_ble_eq_true rfl)⟩ [0, 1, 2, 3, 4] [0, 1, 2, 3, 4] rfl rfl rfl (ci := 9) (q0 := 0) rfl rfl rfl rfl rfl (Nat.le_of_ble_eq_true rfl) dX9_would_28 (fun r_11 u_12 hpo => ?_)
      obtain ⟨rfl, rfl⟩ := hpo
      refine s_st (st' := [.int (if mAway (a_child (4 * k_3 + 0)) (a_child (4 * k_3 + 1)) (a_child (4 * k_3 + 3)) (nI d_8) (a_events d_8) (decide (0 < a_row (0 + 1 + k_3))) (decide (0 < a_row (0 + 9 + k_3))) (a_row (0 + 17 + k_3)) (a_laws 1) = true then 1 else 0)]) rfl ?_
      refine s_ws (ws' := [(b 0, .inr (9, [.int (nI n), .ref (b 1), .ref (b 2), .int (nI 0), .ref (b 3), .ref (b 4), .ref (b 5), .ref (b 6), .ref (b 7), .ref (b 8), .int (I 10), .ref (b 9), .int (nI t), .int (I 13), .int (I 14), .int (I 15), .long W, .int (I 17), .int (I 18), .int (I 19), .int (I 20), .ref (b 10), .ref (b 11), .ref (b 12), .ref (b 13), .ref (b 14), .ref (b 15), .int (nI q), .int (nI mm), .ref (b 16), .ref (b 17), .ref (b 18), .ref (b 19), .ref (b 20), .ref (b 21), .int (I 35), .int (I 36), .int (I 37), .ref (b 22), .int (nI bd), .int (I 40), .int (I 41), .ref (b 23), .int (I 43), .ref (b 24)])), (b 1, .inl (g 0, 32, .inl a_child)), (b 2, .inl (g 0, 50, .inl a_row)), (b 3, .inl (g 0, 40, .inl a_events)), (b 6, .inl (g 0, 4, .inl a_laws))]) rfl ?_
      refine s_bif_eq (tgt := 38) B dX9_would_31 rfl (fun h31 => ?_) (fun h31 => ?_)
      · refine s_iconst B dX9_would_38 ic_0 ?_
        refine s_iret B hQ hr dX9_would_39 rfl ?_
        exact ⟨(fun G cr9 tr9 H => ((if_neg h31).symm.trans (H.would_ok (by omega) hr__10 (by omega)))), rfl⟩
      · refine s_iconst B dX9_would_34 ic_1 ?_
        refine s_goto (tgt := 39) B dX9_would_35 rfl ?_
        refine s_iret B hQ hr dX9_would_39 rfl ?_
        exact ⟨(fun G cr9 tr9 H => ((if_pos h31).symm.trans (H.would_ok (by omega) hr__10 (by omega)))), rfl⟩
    · replace h18 : d_5 = 40 := (nI_eq (a := d_5) (b := 40) (by omega) (by omega)).mp h18
      refine s_bipush B dX9_would_21 bp_m4 ?_
      refine s_goto (tgt := 39) B dX9_would_23 rfl ?_
      refine s_iret B hQ hr dX9_would_39 rfl ?_
      exact ⟨(fun G cr9 tr9 H => (H.would_st (by omega) (hr__7.trans (congrArg nI h18)))), rfl⟩
  · refine s_iconst B dX9_would_8 ic_m1 ?_
    refine s_iret B hQ hr dX9_would_9 rfl ?_
    exact ⟨(fun G cr9 tr9 H => (H.would_no h5)), rfl⟩
def rmX9_seed : Room := { frames := 0, cells := 0, slots := 0, locals := 0 }
theorem hd_X9_seed : yX9_seed.cls = RX9 ∧ yX9_seed.cls ≠ "java/lang/invoke/MethodHandle" ∧ yX9_seed.cls ≠ "java/lang/invoke/VarHandle" ∧ (parseMethodDescriptor yX9_seed.desc).map (fun d => d.parameters.length) = some 1 := by decide +kernel
set_option maxHeartbeats 4000000 in
set_option maxRecDepth 100000 in
theorem c_X9_seed (l : Launch) (D : va_G) (g : Nat → ClassId) (b : Nat → Nat) (I : Nat → Int32) (W : Int64) (n p0 t q mm bd : Nat)  (c0 : Int32) (hn : n ≤ 8) (hp : p0 = 0 ∨ p0 = 25) (ht : t ≤ 240) (hq0 : q ≤ 20) (hmm : mm ≤ 20) (hbd : bd ≤ 30) : Ci l yX9_seed (WW yX9_seed cX9_seed 3 (some FieldType.int)) rmX9_seed D vwCl (TY g) [.ref (b 0), .int c0] [(b 0, .inr (9, [.int (nI n), .ref (b 1), .ref (b 2), .int (nI p0), .ref (b 3), .ref (b 4), .ref (b 5), .ref (b 6), .ref (b 7), .ref (b 8), .int (I 10), .ref (b 9), .int (nI t), .int (I 13), .int (I 14), .int (I 15), .long W, .int (I 17), .int (I 18), .int (I 19), .int (I 20), .ref (b 10), .ref (b 11), .ref (b 12), .ref (b 13), .ref (b 14), .ref (b 15), .int (nI q), .int (nI mm), .ref (b 16), .ref (b 17), .ref (b 18), .ref (b 19), .ref (b 20), .ref (b 21), .int (I 35), .int (I 36), .int (I 37), .ref (b 22), .int (nI bd), .int (I 40), .int (I 41), .ref (b 23), .int (I 43), .ref (b 24)]))] (fun r u => ∃ (z' : Int32), (∀ (G : MG) (ch9 rw9 ev9 cr9 tr9 lw9 : MA), RG G n ch9 rw9 ev9 cr9 tr9 lw9 (I 10) → RG (gSeed c0 G) n ch9 rw9 ev9 cr9 tr9 lw9 z' ∧ r = gZ G) ∧ u = [(b 0, .inr (9, [.int (nI n), .ref (b 1), .ref (b 2), .int (nI p0), .ref (b 3), .ref (b 4), .ref (b 5), .ref (b 6), .ref (b 7), .ref (b 8), .int z', .ref (b 9), .int (nI t), .int (I 13), .int (I 14), .int (I 15), .long W, .int (I 17), .int (I 18), .int (I 19), .int (I 20), .ref (b 10), .ref (b 11), .ref (b 12), .ref (b 13), .ref (b 14), .ref (b 15), .int (nI q), .int (nI mm), .ref (b 16), .ref (b 17), .ref (b 18), .ref (b 19), .ref (b 20), .ref (b 21), .int (I 35), .int (I 36), .int (I 37), .ref (b 22), .int (nI bd), .int (I 40), .int (I 41), .ref (b 23), .int (I 43), .ref (b 24)]))]) := by
  refine ci_in (by decide) (Nat.le_of_ble_eq_true rfl) (a0 := [b 0]) rfl (fun p e s m args below meth c A Q hQ B hr hsc => ?_)
  refine s_aload_n B dX9_seed_0 rfl 0 rfl ?_
  refine s_get (T := TX9) B inX9 0 rfl rfl 10 (Nat.le_of_ble_eq_true rfl) fl_X9_34 rfl rfl dX9_seed_1 ?_
  refine s_istore_n (lv' := [(2, _), (0, _), (1, _)]) B dX9_seed_4 rfl (Nat.le_of_ble_eq_true rfl) rfl ?_
  refine s_aload_n B dX9_seed_5 rfl 1 rfl ?_
  refine s_iload_n B dX9_seed_6 rfl 2 rfl ?_
  refine s_put (T := TX9) (ws' := [_]) B inX9 tyX9_ok nmX9 0 rfl rfl 10 (Nat.le_of_ble_eq_true rfl) fl_X9_34 rfl rfl rfl rfl (Nat.le_of_ble_eq_true rfl) rfl dX9_seed_7 ?_
  refine s_iload_n B dX9_seed_10 rfl 0 rfl ?_
  refine s_iret B hQ hr dX9_seed_11 rfl ?_
  exact ⟨c0, (fun G ch9 rw9 ev9 cr9 tr9 lw9 H => (H.seed c0)), rfl⟩
theorem so_upd {f : Nat → Int32} {k : Nat} {t : Int32} (hk : k < 2 ^ 30) : ∀ j : Nat, j < 4 → upd f k t j = mSo 1 (nI k) t j (f j) := fun j hj => by
  by_cases e : j = k
  · subst e; rw [upd_is]; exact mSo_is
  · rw [upd_ne _ _ e]; exact mSo_ne (fun h => e ((nI_eq (by omega) (by omega)).mp h).symm)
theorem ln_upd_lo {f : Nat → Int32} {k : Nat} {t n : Int32} (hk : k < 2 ^ 30) (h : t.toInt < 0) : ∀ j : Nat, j < 4 → upd f k 0 j = mLn 1 (nI k) t n j (f j) := fun j hj => by
  by_cases e : j = k
  · subst e; rw [upd_is]; exact mLn_lo h
  · rw [upd_ne _ _ e]; exact mLn_ne (fun h => e ((nI_eq (by omega) (by omega)).mp h).symm)
theorem ln_upd_hi {f : Nat → Int32} {k : Nat} {t n : Int32} (hk : k < 2 ^ 30) (h : ¬ t.toInt < 0) : ∀ j : Nat, j < 4 → upd f k n j = mLn 1 (nI k) t n j (f j) := fun j hj => by
  by_cases e : j = k
  · subst e; rw [upd_is]; exact mLn_hi h
  · rw [upd_ne _ _ e]; exact mLn_ne (fun h => e ((nI_eq (by omega) (by omega)).mp h).symm)
def rmX9_sheet : Room := { frames := 2, cells := 0, slots := 0, locals := 42 }
theorem hd_X9_sheet : yX9_sheet.cls = RX9 ∧ yX9_sheet.cls ≠ "java/lang/invoke/MethodHandle" ∧ yX9_sheet.cls ≠ "java/lang/invoke/VarHandle" ∧ (parseMethodDescriptor yX9_sheet.desc).map (fun d => d.parameters.length) = some 3 := by decide +kernel
set_option maxHeartbeats 4000000 in
set_option maxRecDepth 100000 in
theorem c_X9_sheet (l : Launch) (D : va_G) (g : Nat → ClassId) (b : Nat → Nat) (I : Nat → Int32) (W : Int64) (n p0 t q mm bd : Nat) (a_sorts : Nat → Int32) (a_sizes : Nat → Int32) (a_sheets : Nat → Int64) (c0 : Int32) (x0 : Int32) (y0 : Int32) (hn : n ≤ 8) (hp : p0 = 0 ∨ p0 = 25) (ht : t ≤ 240) (hq0 : q ≤ 20) (hmm : mm ≤ 20) (hbd : bd ≤ 30) (ok_a_sizes : SizOk a_sizes) : Ci l yX9_sheet (WW yX9_sheet cX9_sheet 5 (some FieldType.int)) rmX9_sheet D vwCl (TY g) [.ref (b 0), .int c0, .int x0, .int y0] [(b 0, .inr (9, [.int (nI n), .ref (b 1), .ref (b 2), .int (nI p0), .ref (b 3), .ref (b 4), .ref (b 5), .ref (b 6), .ref (b 7), .ref (b 8), .int (I 10), .ref (b 9), .int (nI t), .int (I 13), .int (I 14), .int (I 15), .long W, .int (I 17), .int (I 18), .int (I 19), .int (I 20), .ref (b 10), .ref (b 11), .ref (b 12), .ref (b 13), .ref (b 14), .ref (b 15), .int (nI q), .int (nI mm), .ref (b 16), .ref (b 17), .ref (b 18), .ref (b 19), .ref (b 20), .ref (b 21), .int (I 35), .int (I 36), .int (I 37), .ref (b 22), .int (nI bd), .int (I 40), .int (I 41), .ref (b 23), .int (I 43), .ref (b 24)])), (b 16, .inl (g 0, 4, .inl a_sorts)), (b 17, .inl (g 0, 4, .inl a_sizes)), (b 18, .inl (g 2, 160, .inr (.inl a_sheets)))] (fun r u => ∃ (a_sorts' : Nat → Int32) (a_sizes' : Nat → Int32) (a_sheets' : Nat → Int64), r = mSheet c0 x0 y0 ∧ (SizOk a_sizes') ∧ (∀ j : Nat, j < 4 → a_sorts' j = mSo r c0 x0 j (a_sorts j)) ∧ (∀ j : Nat, j < 4 → a_sizes' j = mLn r c0 x0 y0 j (a_sizes j)) ∧ (∀ j i : Nat, j < 4 → i < 40 → a_sheets' (40 * j + i) = mIs r c0 j (fun i => a_sheets (40 * j + i)) i) ∧ u = [(b 0, .inr (9, [.int (nI n), .ref (b 1), .ref (b 2), .int (nI p0), .ref (b 3), .ref (b 4), .ref (b 5), .ref (b 6), .ref (b 7), .ref (b 8), .int (I 10), .ref (b 9), .int (nI t), .int (I 13), .int (I 14), .int (I 15), .long W, .int (I 17), .int (I 18), .int (I 19), .int (I 20), .ref (b 10), .ref (b 11), .ref (b 12), .ref (b 13), .ref (b 14), .ref (b 15), .int (nI q), .int (nI mm), .ref (b 16), .ref (b 17), .ref (b 18), .ref (b 19), .ref (b 20), .ref (b 21), .int (I 35), .int (I 36), .int (I 37), .ref (b 22), .int (nI bd), .int (I 40), .int (I 41), .ref (b 23), .int (I 43), .ref (b 24)])), (b 16, .inl (g 0, 4, .inl a_sorts')), (b 17, .inl (g 0, 4, .inl a_sizes')), (b 18, .inl (g 2, 160, .inr (.inl a_sheets')))]) := by
  refine ci_in (by decide) (Nat.le_of_ble_eq_true rfl) (a0 := [b 0, b 16, b 17, b 18]) rfl (fun p e s m args below meth c A Q hQ B hr hsc => ?_)
  refine s_iload_n B dX9_sheet_0 rfl 1 rfl ?_
  refine s_callSi B hsc (c_X9_isShelf l D g c0) (gw_S ml_X9_266 sm_yX9_isShelf ini_RX9 co_yX9_isShelf) hd_X9_isShelf rfl rfl ⟨(Nat.le_of_ble_eq_true rfl), (Nat.le_of_ble_eq_true rfl)⟩ [] [0, 1, 2, 3, 4] rfl rfl rfl rfl rfl (Nat.le_of_ble_eq_true rfl) dX9_sheet_1 (fun r_1 u_2 hpo => ?_)
  obtain ⟨rfl, rfl⟩ := hpo
  refine s_st (st' := [.int (if ¬ c0 < 0 ∧ ¬ 3 < c0 then 1 else 0)]) rfl ?_
  refine s_ws (ws' := [(b 0, .inr (9, [.int (nI n), .ref (b 1), .ref (b 2), .int (nI p0), .ref (b 3), .ref (b 4), .ref (b 5), .ref (b 6), .ref (b 7), .ref (b 8), .int (I 10), .ref (b 9), .int (nI t), .int (I 13), .int (I 14), .int (I 15), .long W, .int (I 17), .int (I 18), .int (I 19), .int (I 20), .ref (b 10), .ref (b 11), .ref (b 12), .ref (b 13), .ref (b 14), .ref (b 15), .int (nI q), .int (nI mm), .ref (b 16), .ref (b 17), .ref (b 18), .ref (b 19), .ref (b 20), .ref (b 21), .int (I 35), .int (I 36), .int (I 37), .ref (b 22), .int (nI bd), .int (I 40), .int (I 41), .ref (b 23), .int (I 43), .ref (b 24)])), (b 16, .inl (g 0, 4, .inl a_sorts)), (b 17, .inl (g 0, 4, .inl a_sizes)), (b 18, .inl (g 2, 160, .inr (.inl a_sheets)))]) rfl ?_
  refine s_bif_eq (tgt := 26) B dX9_sheet_4 rfl (fun h4 => ?_) (fun h4 => ?_)
  · refine s_iconst B dX9_sheet_26 ic_m1 ?_
    refine s_iret B hQ hr dX9_sheet_27 rfl ?_
    exact ⟨a_sorts, a_sizes, a_sheets, by clear hQ B hr hsc; have e_0 : (0 : Int32).toInt = 0 := (by decide); have e_1 : (1 : Int32).toInt = 1 := (by decide); have e_2 : (2 : Int32).toInt = 2 := (by decide); have e_3 : (3 : Int32).toInt = 3 := (by decide); have e_4 : (4 : Int32).toInt = 4 := (by decide); have e_5 : (8 : Int32).toInt = 8 := (by decide); have e_6 : (40 : Int32).toInt = 40 := (by decide); have e_7 : (240 : Int32).toInt = 240 := (by decide); have e_8 : ((-1) : Int32).toInt = -1 := (by decide); have e_9 : ((-14) : Int32).toInt = -14 := (by decide); (try simp only [Int32.lt_iff_toInt_lt, Int32.le_iff_toInt_le, ← Int32.toInt_inj, e_0, e_1, e_2, e_3, e_4, e_5, e_6, e_7, e_8, e_9] at h4); unfold mSheet; skip; split <;> first | rfl | (exfalso; omega) | (split <;> first | rfl | (exfalso; omega) | (split <;> first | rfl | (exfalso; omega) | (split <;> first | rfl | (exfalso; omega)))), ok_a_sizes, fun j hj => mSo_no (by decide), fun j hj => mLn_no (by decide), (fun j i hj hi => by rw [← mIs_no (by decide)]), rfl⟩
  · obtain ⟨k_3, hk_4, rfl⟩ := nat_le (N := 3) h4.1 h4.2 (by decide)
    have L64 : ∀ (jj64 : Nat) (k_15 : Nat) (a_sizes_17 : Nat → Int32) (a_sheets_18 : Nat → Int64), 40 - k_15 < jj64 → (¬ (nI k_3) < 0 ∧ ¬ 3 < (nI k_3)) → (k_3 ≤ 3) → (¬ x0 < (-1) ∧ ¬ 3 < x0) → (k_15 ≤ 40) → (SizOk a_sizes_17) → (1 = mSheet (nI k_3) x0 y0) → (∀ j : Nat, j < 4 → a_sizes_17 j = mLn 1 (nI k_3) x0 y0 j (a_sizes j)) → (ShZ k_3 k_15 a_sheets a_sheets_18) → Sx p l e rmX9_sheet s m args below meth c D vwCl A 5 Q 64 [(0, .ref (b 0)), (1, .int (nI k_3)), (4, .int (nI k_15))] [] [(b 0, .inr (9, [.int (nI n), .ref (b 1), .ref (b 2), .int (nI p0), .ref (b 3), .ref (b 4), .ref (b 5), .ref (b 6), .ref (b 7), .ref (b 8), .int (I 10), .ref (b 9), .int (nI t), .int (I 13), .int (I 14), .int (I 15), .long W, .int (I 17), .int (I 18), .int (I 19), .int (I 20), .ref (b 10), .ref (b 11), .ref (b 12), .ref (b 13), .ref (b 14), .ref (b 15), .int (nI q), .int (nI mm), .ref (b 16), .ref (b 17), .ref (b 18), .ref (b 19), .ref (b 20), .ref (b 21), .int (I 35), .int (I 36), .int (I 37), .ref (b 22), .int (nI bd), .int (I 40), .int (I 41), .ref (b 23), .int (I 43), .ref (b 24)])), (b 16, .inl (g 0, 4, .inl (upd a_sorts k_3 x0))), (b 17, .inl (g 0, 4, .inl a_sizes_17)), (b 18, .inl (g 2, 160, .inr (.inl a_sheets_18)))] := by
      intro jj64
      induction jj64 with
      | zero => intro k_15 a_sizes_17 a_sheets_18 hj; exact absurd hj (Nat.not_lt_zero _)
      | succ jj64 ih64 =>
        intro k_15 a_sizes_17 a_sheets_18 hj64 h4 hk_4 h13 h_16 ok_a_sizes_17 hS_19 hZ_20 hz_21
        refine s_iload B dX9_sheet_64 2 rfl ?_
        refine s_bipush B dX9_sheet_66 bp_40 ?_
        refine s_icmp_ge (tgt := 90) B dX9_sheet_68 rfl (fun h68 => ?_) (fun h68 => ?_)
        · replace h68 : 40 ≤ k_15 := (nI_leI (a := 40) (b := k_15) (by omega) (by omega)).mp h68
          refine s_iconst B dX9_sheet_90 ic_1 ?_
          refine s_iret B hQ hr dX9_sheet_91 rfl ?_
          exact ⟨(upd a_sorts k_3 x0), a_sizes_17, a_sheets_18, hS_19, ok_a_sizes_17, (so_upd (by omega)), hZ_20, (ShZ_f (by omega) (by omega) hz_21), rfl⟩
        · replace h68 : ¬ 40 ≤ k_15 := fun hh => h68 ((nI_leI (a := 40) (b := k_15) (by omega) (by omega)).mpr hh)
          refine s_aload_n B dX9_sheet_71 rfl 0 rfl ?_
          refine s_get (T := TX9) B inX9 0 rfl rfl 31 (Nat.le_of_ble_eq_true rfl) fl_X9_65 rfl rfl dX9_sheet_72 ?_
          refine s_bipush B dX9_sheet_75 bp_40 ?_
          refine s_iload_n B dX9_sheet_77 rfl 1 rfl ?_
          refine s_imulE B dX9_sheet_78 (pk_mul 40 k_3) ?_
          refine s_iload B dX9_sheet_79 2 rfl ?_
          refine s_iaddE B dX9_sheet_81 (nI_add (40 * k_3) k_15) ?_
          refine s_lconst B dX9_sheet_82 lc_0 ?_
          refine s_lastN (ws' := [_, _, _, _]) B 3 2 rfl rfl rfl dX9_sheet_83 (by omega) (by decide) ?_
          refine s_iinc (lv' := [(4, _), (0, _), (1, _)]) (k := 2) B dX9_sheet_84 rfl (ii_n _) (Nat.le_of_ble_eq_true rfl) rfl ?_
          refine s_goto (tgt := 64) B dX9_sheet_87 rfl ?_
          refine s_lv (lv' := [(0, _), (1, _), (4, _)]) [1, 2, 0] rfl ?_
          exact ih64 (k_15 + 1) a_sizes_17 (vp_updL a_sheets_18 ((40 * k_3) + k_15) 0) (by omega) h4 hk_4 h13 (by omega) ok_a_sizes_17 hS_19 hZ_20 (ShZ_s hz_21 (by omega))
    refine s_iload_n B dX9_sheet_7 rfl 2 rfl ?_
    refine s_iconst B dX9_sheet_8 ic_m1 ?_
    refine s_iconst B dX9_sheet_9 ic_3 ?_
    refine s_callSi B hsc (c_X9_in l D g x0 (-1) 3) (gw_S ml_X9_87 sm_yX9_in ini_RX9 co_yX9_in) hd_X9_in rfl rfl ⟨(Nat.le_of_ble_eq_true rfl), (Nat.le_of_ble_eq_true rfl)⟩ [] [0, 1, 2, 3, 4] rfl rfl rfl rfl rfl (Nat.le_of_ble_eq_true rfl) dX9_sheet_10 (fun r_5 u_6 hpo => ?_)
    obtain ⟨rfl, rfl⟩ := hpo
    refine s_st (st' := [.int (if ¬ x0 < (-1) ∧ ¬ 3 < x0 then 1 else 0)]) rfl ?_
    refine s_ws (ws' := [(b 0, .inr (9, [.int (nI n), .ref (b 1), .ref (b 2), .int (nI p0), .ref (b 3), .ref (b 4), .ref (b 5), .ref (b 6), .ref (b 7), .ref (b 8), .int (I 10), .ref (b 9), .int (nI t), .int (I 13), .int (I 14), .int (I 15), .long W, .int (I 17), .int (I 18), .int (I 19), .int (I 20), .ref (b 10), .ref (b 11), .ref (b 12), .ref (b 13), .ref (b 14), .ref (b 15), .int (nI q), .int (nI mm), .ref (b 16), .ref (b 17), .ref (b 18), .ref (b 19), .ref (b 20), .ref (b 21), .int (I 35), .int (I 36), .int (I 37), .ref (b 22), .int (nI bd), .int (I 40), .int (I 41), .ref (b 23), .int (I 43), .ref (b 24)])), (b 16, .inl (g 0, 4, .inl a_sorts)), (b 17, .inl (g 0, 4, .inl a_sizes)), (b 18, .inl (g 2, 160, .inr (.inl a_sheets)))]) rfl ?_
    refine s_bif_eq (tgt := 26) B dX9_sheet_13 rfl (fun h13 => ?_) (fun h13 => ?_)
    · refine s_iconst B dX9_sheet_26 ic_m1 ?_
      refine s_iret B hQ hr dX9_sheet_27 rfl ?_
      exact ⟨a_sorts, a_sizes, a_sheets, by clear hQ B hr hsc; have e_0 : (0 : Int32).toInt = 0 := (by decide); have e_1 : (1 : Int32).toInt = 1 := (by decide); have e_2 : (2 : Int32).toInt = 2 := (by decide); have e_3 : (3 : Int32).toInt = 3 := (by decide); have e_4 : (4 : Int32).toInt = 4 := (by decide); have e_5 : (8 : Int32).toInt = 8 := (by decide); have e_6 : (40 : Int32).toInt = 40 := (by decide); have e_7 : (240 : Int32).toInt = 240 := (by decide); have e_8 : ((-1) : Int32).toInt = -1 := (by decide); have e_9 : ((-14) : Int32).toInt = -14 := (by decide); have ek_k_3 : (nI k_3).toInt = (k_3 : Int) := nI_toInt (by omega); (try simp only [Int32.lt_iff_toInt_lt, Int32.le_iff_toInt_le, ← Int32.toInt_inj, e_0, e_1, e_2, e_3, e_4, e_5, e_6, e_7, e_8, e_9, ek_k_3] at h4); (try simp only [Int32.lt_iff_toInt_lt, Int32.le_iff_toInt_le, ← Int32.toInt_inj, e_0, e_1, e_2, e_3, e_4, e_5, e_6, e_7, e_8, e_9, ek_k_3] at hk_4); (try simp only [Int32.lt_iff_toInt_lt, Int32.le_iff_toInt_le, ← Int32.toInt_inj, e_0, e_1, e_2, e_3, e_4, e_5, e_6, e_7, e_8, e_9, ek_k_3] at h13); unfold mSheet; (try simp only [ek_k_3]); split <;> first | rfl | (exfalso; omega) | (split <;> first | rfl | (exfalso; omega) | (split <;> first | rfl | (exfalso; omega) | (split <;> first | rfl | (exfalso; omega)))), ok_a_sizes, fun j hj => mSo_no (by decide), fun j hj => mLn_no (by decide), (fun j i hj hi => by rw [← mIs_no (by decide)]), rfl⟩
    · refine s_iload_n B dX9_sheet_16 rfl 2 rfl ?_
      refine s_if_lt (tgt := 28) B dX9_sheet_17 rfl (fun h17 => ?_) (fun h17 => ?_)
      · refine s_iload_n B dX9_sheet_28 rfl 2 rfl ?_
        refine s_if_lt (tgt := 39) B dX9_sheet_29 rfl (fun h29 => ?_) (fun h29 => ?_)
        · refine s_aload_n B dX9_sheet_39 rfl 0 rfl ?_
          refine s_get (T := TX9) B inX9 0 rfl rfl 29 (Nat.le_of_ble_eq_true rfl) fl_X9_59 rfl rfl dX9_sheet_40 ?_
          refine s_iload_n B dX9_sheet_43 rfl 1 rfl ?_
          refine s_iload_n B dX9_sheet_44 rfl 2 rfl ?_
          refine s_iastN (ws' := [_, _, _, _]) B 1 0 rfl rfl rfl dX9_sheet_45 (by omega) (by decide) ?_
          refine s_aload_n B dX9_sheet_46 rfl 0 rfl ?_
          refine s_get (T := TX9) B inX9 0 rfl rfl 30 (Nat.le_of_ble_eq_true rfl) fl_X9_62 rfl rfl dX9_sheet_47 ?_
          refine s_iload_n B dX9_sheet_50 rfl 1 rfl ?_
          refine s_iload_n B dX9_sheet_51 rfl 2 rfl ?_
          refine s_if_ge (tgt := 59) B dX9_sheet_52 rfl (fun h52 => ?_) (fun h52 => ?_)
          · obtain ⟨k_7, hk_8, rfl⟩ : ∃ k : Nat, k ≤ 40 ∧ y0 = nI k := nat_le (N := 40) (by clear hQ B hr hsc; grind) (show ¬ (40 : Int32) < y0 from (by clear hQ B hr hsc; grind)) (by first | decide | omega)
            refine s_iload_n B dX9_sheet_59 rfl 3 rfl ?_
            refine s_iastN (ws' := [_, _, _, _]) B 2 0 rfl rfl rfl dX9_sheet_60 (by omega) (by decide) ?_
            refine s_iconst B dX9_sheet_61 ic_0 ?_
            refine s_istore (lv' := [(4, _), (0, _), (1, _), (2, _), (3, _)]) B dX9_sheet_62 (Nat.le_of_ble_eq_true rfl) rfl ?_
            refine s_lv (lv' := [(0, _), (1, _), (4, _)]) [1, 2, 0] rfl ?_
            refine s_lve (lv' := [(0, .ref (b 0)), (1, .int (nI k_3)), (4, .int (nI 0))]) (by first | rfl | (simp only [if_pos, if_neg]; done)) ?_
            exact L64 _ 0 (upd a_sizes k_3 (nI k_7)) a_sheets (Nat.lt_succ_self _) h4 hk_4 h13 (by omega) (SizOk.put ok_a_sizes ⟨k_7, by omega, rfl⟩) (by clear hQ B hr hsc; have e_0 : (0 : Int32).toInt = 0 := (by decide); have e_1 : (1 : Int32).toInt = 1 := (by decide); have e_2 : (2 : Int32).toInt = 2 := (by decide); have e_3 : (3 : Int32).toInt = 3 := (by decide); have e_4 : (4 : Int32).toInt = 4 := (by decide); have e_5 : (8 : Int32).toInt = 8 := (by decide); have e_6 : (40 : Int32).toInt = 40 := (by decide); have e_7 : (240 : Int32).toInt = 240 := (by decide); have e_8 : ((-1) : Int32).toInt = -1 := (by decide); have e_9 : ((-14) : Int32).toInt = -14 := (by decide); have ek_k_3 : (nI k_3).toInt = (k_3 : Int) := nI_toInt (by omega); (try simp only [Int32.lt_iff_toInt_lt, Int32.le_iff_toInt_le, ← Int32.toInt_inj, e_0, e_1, e_2, e_3, e_4, e_5, e_6, e_7, e_8, e_9, ek_k_3] at h4); (try simp only [Int32.lt_iff_toInt_lt, Int32.le_iff_toInt_le, ← Int32.toInt_inj, e_0, e_1, e_2, e_3, e_4, e_5, e_6, e_7, e_8, e_9, ek_k_3] at hk_4); (try simp only [Int32.lt_iff_toInt_lt, Int32.le_iff_toInt_le, ← Int32.toInt_inj, e_0, e_1, e_2, e_3, e_4, e_5, e_6, e_7, e_8, e_9, ek_k_3] at h13); (try simp only [Int32.lt_iff_toInt_lt, Int32.le_iff_toInt_le, ← Int32.toInt_inj, e_0, e_1, e_2, e_3, e_4, e_5, e_6, e_7, e_8, e_9, ek_k_3] at h17); (try simp only [Int32.lt_iff_toInt_lt, Int32.le_iff_toInt_le, ← Int32.toInt_inj, e_0, e_1, e_2, e_3, e_4, e_5, e_6, e_7, e_8, e_9, ek_k_3] at h29); (try simp only [Int32.lt_iff_toInt_lt, Int32.le_iff_toInt_le, ← Int32.toInt_inj, e_0, e_1, e_2, e_3, e_4, e_5, e_6, e_7, e_8, e_9, ek_k_3] at h52); (try simp only [Int32.lt_iff_toInt_lt, Int32.le_iff_toInt_le, ← Int32.toInt_inj, e_0, e_1, e_2, e_3, e_4, e_5, e_6, e_7, e_8, e_9, ek_k_3] at hk_8); unfold mSheet; (try simp only [ek_k_3]); split <;> first | rfl | (exfalso; omega) | (split <;> first | rfl | (exfalso; omega) | (split <;> first | rfl | (exfalso; omega) | (split <;> first | rfl | (exfalso; omega))))) (by clear hQ B hr hsc; have e_0 : (0 : Int32).toInt = 0 := (by decide); have e_1 : (1 : Int32).toInt = 1 := (by decide); have e_2 : (2 : Int32).toInt = 2 := (by decide); have e_3 : (3 : Int32).toInt = 3 := (by decide); have e_4 : (4 : Int32).toInt = 4 := (by decide); have e_5 : (8 : Int32).toInt = 8 := (by decide); have e_6 : (40 : Int32).toInt = 40 := (by decide); have e_7 : (240 : Int32).toInt = 240 := (by decide); have e_8 : ((-1) : Int32).toInt = -1 := (by decide); have e_9 : ((-14) : Int32).toInt = -14 := (by decide); have ek_k_3 : (nI k_3).toInt = (k_3 : Int) := nI_toInt (by omega); (try simp only [Int32.lt_iff_toInt_lt, Int32.le_iff_toInt_le, ← Int32.toInt_inj, e_0, e_1, e_2, e_3, e_4, e_5, e_6, e_7, e_8, e_9, ek_k_3] at h4); (try simp only [Int32.lt_iff_toInt_lt, Int32.le_iff_toInt_le, ← Int32.toInt_inj, e_0, e_1, e_2, e_3, e_4, e_5, e_6, e_7, e_8, e_9, ek_k_3] at hk_4); (try simp only [Int32.lt_iff_toInt_lt, Int32.le_iff_toInt_le, ← Int32.toInt_inj, e_0, e_1, e_2, e_3, e_4, e_5, e_6, e_7, e_8, e_9, ek_k_3] at h13); (try simp only [Int32.lt_iff_toInt_lt, Int32.le_iff_toInt_le, ← Int32.toInt_inj, e_0, e_1, e_2, e_3, e_4, e_5, e_6, e_7, e_8, e_9, ek_k_3] at h17); (try simp only [Int32.lt_iff_toInt_lt, Int32.le_iff_toInt_le, ← Int32.toInt_inj, e_0, e_1, e_2, e_3, e_4, e_5, e_6, e_7, e_8, e_9, ek_k_3] at h29); (try simp only [Int32.lt_iff_toInt_lt, Int32.le_iff_toInt_le, ← Int32.toInt_inj, e_0, e_1, e_2, e_3, e_4, e_5, e_6, e_7, e_8, e_9, ek_k_3] at h52); (try simp only [Int32.lt_iff_toInt_lt, Int32.le_iff_toInt_le, ← Int32.toInt_inj, e_0, e_1, e_2, e_3, e_4, e_5, e_6, e_7, e_8, e_9, ek_k_3] at hk_8); first | exact ln_upd_lo (by omega) (by omega) | exact ln_upd_hi (by omega) (by omega)) ShZ_0
          · refine s_iconst B dX9_sheet_55 ic_0 ?_
            refine s_goto (tgt := 60) B dX9_sheet_56 rfl ?_
            refine s_iastN (ws' := [_, _, _, _]) B 2 0 rfl rfl rfl dX9_sheet_60 (by omega) (by decide) ?_
            refine s_iconst B dX9_sheet_61 ic_0 ?_
            refine s_istore (lv' := [(4, _), (0, _), (1, _), (2, _), (3, _)]) B dX9_sheet_62 (Nat.le_of_ble_eq_true rfl) rfl ?_
            refine s_lv (lv' := [(0, _), (1, _), (4, _)]) [1, 2, 0] rfl ?_
            refine s_lve (lv' := [(0, .ref (b 0)), (1, .int (nI k_3)), (4, .int (nI 0))]) (by first | rfl | (simp only [if_pos, if_neg]; done)) ?_
            exact L64 _ 0 (upd a_sizes k_3 0) a_sheets (Nat.lt_succ_self _) h4 hk_4 h13 (by omega) (SizOk.put ok_a_sizes ⟨0, by omega, rfl⟩) (by clear hQ B hr hsc; have e_0 : (0 : Int32).toInt = 0 := (by decide); have e_1 : (1 : Int32).toInt = 1 := (by decide); have e_2 : (2 : Int32).toInt = 2 := (by decide); have e_3 : (3 : Int32).toInt = 3 := (by decide); have e_4 : (4 : Int32).toInt = 4 := (by decide); have e_5 : (8 : Int32).toInt = 8 := (by decide); have e_6 : (40 : Int32).toInt = 40 := (by decide); have e_7 : (240 : Int32).toInt = 240 := (by decide); have e_8 : ((-1) : Int32).toInt = -1 := (by decide); have e_9 : ((-14) : Int32).toInt = -14 := (by decide); have ek_k_3 : (nI k_3).toInt = (k_3 : Int) := nI_toInt (by omega); (try simp only [Int32.lt_iff_toInt_lt, Int32.le_iff_toInt_le, ← Int32.toInt_inj, e_0, e_1, e_2, e_3, e_4, e_5, e_6, e_7, e_8, e_9, ek_k_3] at h4); (try simp only [Int32.lt_iff_toInt_lt, Int32.le_iff_toInt_le, ← Int32.toInt_inj, e_0, e_1, e_2, e_3, e_4, e_5, e_6, e_7, e_8, e_9, ek_k_3] at hk_4); (try simp only [Int32.lt_iff_toInt_lt, Int32.le_iff_toInt_le, ← Int32.toInt_inj, e_0, e_1, e_2, e_3, e_4, e_5, e_6, e_7, e_8, e_9, ek_k_3] at h13); (try simp only [Int32.lt_iff_toInt_lt, Int32.le_iff_toInt_le, ← Int32.toInt_inj, e_0, e_1, e_2, e_3, e_4, e_5, e_6, e_7, e_8, e_9, ek_k_3] at h17); (try simp only [Int32.lt_iff_toInt_lt, Int32.le_iff_toInt_le, ← Int32.toInt_inj, e_0, e_1, e_2, e_3, e_4, e_5, e_6, e_7, e_8, e_9, ek_k_3] at h29); (try simp only [Int32.lt_iff_toInt_lt, Int32.le_iff_toInt_le, ← Int32.toInt_inj, e_0, e_1, e_2, e_3, e_4, e_5, e_6, e_7, e_8, e_9, ek_k_3] at h52); unfold mSheet; (try simp only [ek_k_3]); split <;> first | rfl | (exfalso; omega) | (split <;> first | rfl | (exfalso; omega) | (split <;> first | rfl | (exfalso; omega) | (split <;> first | rfl | (exfalso; omega))))) (by clear hQ B hr hsc; have e_0 : (0 : Int32).toInt = 0 := (by decide); have e_1 : (1 : Int32).toInt = 1 := (by decide); have e_2 : (2 : Int32).toInt = 2 := (by decide); have e_3 : (3 : Int32).toInt = 3 := (by decide); have e_4 : (4 : Int32).toInt = 4 := (by decide); have e_5 : (8 : Int32).toInt = 8 := (by decide); have e_6 : (40 : Int32).toInt = 40 := (by decide); have e_7 : (240 : Int32).toInt = 240 := (by decide); have e_8 : ((-1) : Int32).toInt = -1 := (by decide); have e_9 : ((-14) : Int32).toInt = -14 := (by decide); have ek_k_3 : (nI k_3).toInt = (k_3 : Int) := nI_toInt (by omega); (try simp only [Int32.lt_iff_toInt_lt, Int32.le_iff_toInt_le, ← Int32.toInt_inj, e_0, e_1, e_2, e_3, e_4, e_5, e_6, e_7, e_8, e_9, ek_k_3] at h4); (try simp only [Int32.lt_iff_toInt_lt, Int32.le_iff_toInt_le, ← Int32.toInt_inj, e_0, e_1, e_2, e_3, e_4, e_5, e_6, e_7, e_8, e_9, ek_k_3] at hk_4); (try simp only [Int32.lt_iff_toInt_lt, Int32.le_iff_toInt_le, ← Int32.toInt_inj, e_0, e_1, e_2, e_3, e_4, e_5, e_6, e_7, e_8, e_9, ek_k_3] at h13); (try simp only [Int32.lt_iff_toInt_lt, Int32.le_iff_toInt_le, ← Int32.toInt_inj, e_0, e_1, e_2, e_3, e_4, e_5, e_6, e_7, e_8, e_9, ek_k_3] at h17); (try simp only [Int32.lt_iff_toInt_lt, Int32.le_iff_toInt_le, ← Int32.toInt_inj, e_0, e_1, e_2, e_3, e_4, e_5, e_6, e_7, e_8, e_9, ek_k_3] at h29); (try simp only [Int32.lt_iff_toInt_lt, Int32.le_iff_toInt_le, ← Int32.toInt_inj, e_0, e_1, e_2, e_3, e_4, e_5, e_6, e_7, e_8, e_9, ek_k_3] at h52); first | exact ln_upd_lo (by omega) (by omega) | exact ln_upd_hi (by omega) (by omega)) ShZ_0
        · refine s_iload_n B dX9_sheet_32 rfl 3 rfl ?_
          refine s_if_ge (tgt := 39) B dX9_sheet_33 rfl (fun h33 => ?_) (fun h33 => ?_)
          · refine s_aload_n B dX9_sheet_39 rfl 0 rfl ?_
            refine s_get (T := TX9) B inX9 0 rfl rfl 29 (Nat.le_of_ble_eq_true rfl) fl_X9_59 rfl rfl dX9_sheet_40 ?_
            refine s_iload_n B dX9_sheet_43 rfl 1 rfl ?_
            refine s_iload_n B dX9_sheet_44 rfl 2 rfl ?_
            refine s_iastN (ws' := [_, _, _, _]) B 1 0 rfl rfl rfl dX9_sheet_45 (by omega) (by decide) ?_
            refine s_aload_n B dX9_sheet_46 rfl 0 rfl ?_
            refine s_get (T := TX9) B inX9 0 rfl rfl 30 (Nat.le_of_ble_eq_true rfl) fl_X9_62 rfl rfl dX9_sheet_47 ?_
            refine s_iload_n B dX9_sheet_50 rfl 1 rfl ?_
            refine s_iload_n B dX9_sheet_51 rfl 2 rfl ?_
            refine s_if_ge (tgt := 59) B dX9_sheet_52 rfl (fun h52 => ?_) (fun h52 => ?_)
            · obtain ⟨k_9, hk_10, rfl⟩ : ∃ k : Nat, k ≤ 40 ∧ y0 = nI k := nat_le (N := 40) (by clear hQ B hr hsc; grind) (show ¬ (40 : Int32) < y0 from (by clear hQ B hr hsc; grind)) (by first | decide | omega)
              refine s_iload_n B dX9_sheet_59 rfl 3 rfl ?_
              refine s_iastN (ws' := [_, _, _, _]) B 2 0 rfl rfl rfl dX9_sheet_60 (by omega) (by decide) ?_
              refine s_iconst B dX9_sheet_61 ic_0 ?_
              refine s_istore (lv' := [(4, _), (0, _), (1, _), (2, _), (3, _)]) B dX9_sheet_62 (Nat.le_of_ble_eq_true rfl) rfl ?_
              refine s_lv (lv' := [(0, _), (1, _), (4, _)]) [1, 2, 0] rfl ?_
              refine s_lve (lv' := [(0, .ref (b 0)), (1, .int (nI k_3)), (4, .int (nI 0))]) (by first | rfl | (simp only [if_pos, if_neg]; done)) ?_
              exact L64 _ 0 (upd a_sizes k_3 (nI k_9)) a_sheets (Nat.lt_succ_self _) h4 hk_4 h13 (by omega) (SizOk.put ok_a_sizes ⟨k_9, by omega, rfl⟩) (by clear hQ B hr hsc; have e_0 : (0 : Int32).toInt = 0 := (by decide); have e_1 : (1 : Int32).toInt = 1 := (by decide); have e_2 : (2 : Int32).toInt = 2 := (by decide); have e_3 : (3 : Int32).toInt = 3 := (by decide); have e_4 : (4 : Int32).toInt = 4 := (by decide); have e_5 : (8 : Int32).toInt = 8 := (by decide); have e_6 : (40 : Int32).toInt = 40 := (by decide); have e_7 : (240 : Int32).toInt = 240 := (by decide); have e_8 : ((-1) : Int32).toInt = -1 := (by decide); have e_9 : ((-14) : Int32).toInt = -14 := (by decide); have ek_k_3 : (nI k_3).toInt = (k_3 : Int) := nI_toInt (by omega); have ek_k_9 : (nI k_9).toInt = (k_9 : Int) := nI_toInt (by omega); (try simp only [Int32.lt_iff_toInt_lt, Int32.le_iff_toInt_le, ← Int32.toInt_inj, e_0, e_1, e_2, e_3, e_4, e_5, e_6, e_7, e_8, e_9, ek_k_3, ek_k_9] at h4); (try simp only [Int32.lt_iff_toInt_lt, Int32.le_iff_toInt_le, ← Int32.toInt_inj, e_0, e_1, e_2, e_3, e_4, e_5, e_6, e_7, e_8, e_9, ek_k_3, ek_k_9] at hk_4); (try simp only [Int32.lt_iff_toInt_lt, Int32.le_iff_toInt_le, ← Int32.toInt_inj, e_0, e_1, e_2, e_3, e_4, e_5, e_6, e_7, e_8, e_9, ek_k_3, ek_k_9] at h13); (try simp only [Int32.lt_iff_toInt_lt, Int32.le_iff_toInt_le, ← Int32.toInt_inj, e_0, e_1, e_2, e_3, e_4, e_5, e_6, e_7, e_8, e_9, ek_k_3, ek_k_9] at h17); (try simp only [Int32.lt_iff_toInt_lt, Int32.le_iff_toInt_le, ← Int32.toInt_inj, e_0, e_1, e_2, e_3, e_4, e_5, e_6, e_7, e_8, e_9, ek_k_3, ek_k_9] at h29); (try simp only [Int32.lt_iff_toInt_lt, Int32.le_iff_toInt_le, ← Int32.toInt_inj, e_0, e_1, e_2, e_3, e_4, e_5, e_6, e_7, e_8, e_9, ek_k_3, ek_k_9] at h33); (try simp only [Int32.lt_iff_toInt_lt, Int32.le_iff_toInt_le, ← Int32.toInt_inj, e_0, e_1, e_2, e_3, e_4, e_5, e_6, e_7, e_8, e_9, ek_k_3, ek_k_9] at h52); (try simp only [Int32.lt_iff_toInt_lt, Int32.le_iff_toInt_le, ← Int32.toInt_inj, e_0, e_1, e_2, e_3, e_4, e_5, e_6, e_7, e_8, e_9, ek_k_3, ek_k_9] at hk_10); unfold mSheet; (try simp only [ek_k_3, ek_k_9]); split <;> first | rfl | (exfalso; omega) | (split <;> first | rfl | (exfalso; omega) | (split <;> first | rfl | (exfalso; omega) | (split <;> first | rfl | (exfalso; omega))))) (by clear hQ B hr hsc; have e_0 : (0 : Int32).toInt = 0 := (by decide); have e_1 : (1 : Int32).toInt = 1 := (by decide); have e_2 : (2 : Int32).toInt = 2 := (by decide); have e_3 : (3 : Int32).toInt = 3 := (by decide); have e_4 : (4 : Int32).toInt = 4 := (by decide); have e_5 : (8 : Int32).toInt = 8 := (by decide); have e_6 : (40 : Int32).toInt = 40 := (by decide); have e_7 : (240 : Int32).toInt = 240 := (by decide); have e_8 : ((-1) : Int32).toInt = -1 := (by decide); have e_9 : ((-14) : Int32).toInt = -14 := (by decide); have ek_k_3 : (nI k_3).toInt = (k_3 : Int) := nI_toInt (by omega); have ek_k_9 : (nI k_9).toInt = (k_9 : Int) := nI_toInt (by omega); (try simp only [Int32.lt_iff_toInt_lt, Int32.le_iff_toInt_le, ← Int32.toInt_inj, e_0, e_1, e_2, e_3, e_4, e_5, e_6, e_7, e_8, e_9, ek_k_3, ek_k_9] at h4); (try simp only [Int32.lt_iff_toInt_lt, Int32.le_iff_toInt_le, ← Int32.toInt_inj, e_0, e_1, e_2, e_3, e_4, e_5, e_6, e_7, e_8, e_9, ek_k_3, ek_k_9] at hk_4); (try simp only [Int32.lt_iff_toInt_lt, Int32.le_iff_toInt_le, ← Int32.toInt_inj, e_0, e_1, e_2, e_3, e_4, e_5, e_6, e_7, e_8, e_9, ek_k_3, ek_k_9] at h13); (try simp only [Int32.lt_iff_toInt_lt, Int32.le_iff_toInt_le, ← Int32.toInt_inj, e_0, e_1, e_2, e_3, e_4, e_5, e_6, e_7, e_8, e_9, ek_k_3, ek_k_9] at h17); (try simp only [Int32.lt_iff_toInt_lt, Int32.le_iff_toInt_le, ← Int32.toInt_inj, e_0, e_1, e_2, e_3, e_4, e_5, e_6, e_7, e_8, e_9, ek_k_3, ek_k_9] at h29); (try simp only [Int32.lt_iff_toInt_lt, Int32.le_iff_toInt_le, ← Int32.toInt_inj, e_0, e_1, e_2, e_3, e_4, e_5, e_6, e_7, e_8, e_9, ek_k_3, ek_k_9] at h33); (try simp only [Int32.lt_iff_toInt_lt, Int32.le_iff_toInt_le, ← Int32.toInt_inj, e_0, e_1, e_2, e_3, e_4, e_5, e_6, e_7, e_8, e_9, ek_k_3, ek_k_9] at h52); (try simp only [Int32.lt_iff_toInt_lt, Int32.le_iff_toInt_le, ← Int32.toInt_inj, e_0, e_1, e_2, e_3, e_4, e_5, e_6, e_7, e_8, e_9, ek_k_3, ek_k_9] at hk_10); first | exact ln_upd_lo (by omega) (by omega) | exact ln_upd_hi (by omega) (by omega)) ShZ_0
            · refine s_iconst B dX9_sheet_55 ic_0 ?_
              refine s_goto (tgt := 60) B dX9_sheet_56 rfl ?_
              refine s_iastN (ws' := [_, _, _, _]) B 2 0 rfl rfl rfl dX9_sheet_60 (by omega) (by decide) ?_
              refine s_iconst B dX9_sheet_61 ic_0 ?_
              refine s_istore (lv' := [(4, _), (0, _), (1, _), (2, _), (3, _)]) B dX9_sheet_62 (Nat.le_of_ble_eq_true rfl) rfl ?_
              refine s_lv (lv' := [(0, _), (1, _), (4, _)]) [1, 2, 0] rfl ?_
              refine s_lve (lv' := [(0, .ref (b 0)), (1, .int (nI k_3)), (4, .int (nI 0))]) (by first | rfl | (simp only [if_pos, if_neg]; done)) ?_
              exact L64 _ 0 (upd a_sizes k_3 0) a_sheets (Nat.lt_succ_self _) h4 hk_4 h13 (by omega) (SizOk.put ok_a_sizes ⟨0, by omega, rfl⟩) (by clear hQ B hr hsc; have e_0 : (0 : Int32).toInt = 0 := (by decide); have e_1 : (1 : Int32).toInt = 1 := (by decide); have e_2 : (2 : Int32).toInt = 2 := (by decide); have e_3 : (3 : Int32).toInt = 3 := (by decide); have e_4 : (4 : Int32).toInt = 4 := (by decide); have e_5 : (8 : Int32).toInt = 8 := (by decide); have e_6 : (40 : Int32).toInt = 40 := (by decide); have e_7 : (240 : Int32).toInt = 240 := (by decide); have e_8 : ((-1) : Int32).toInt = -1 := (by decide); have e_9 : ((-14) : Int32).toInt = -14 := (by decide); have ek_k_3 : (nI k_3).toInt = (k_3 : Int) := nI_toInt (by omega); (try simp only [Int32.lt_iff_toInt_lt, Int32.le_iff_toInt_le, ← Int32.toInt_inj, e_0, e_1, e_2, e_3, e_4, e_5, e_6, e_7, e_8, e_9, ek_k_3] at h4); (try simp only [Int32.lt_iff_toInt_lt, Int32.le_iff_toInt_le, ← Int32.toInt_inj, e_0, e_1, e_2, e_3, e_4, e_5, e_6, e_7, e_8, e_9, ek_k_3] at hk_4); (try simp only [Int32.lt_iff_toInt_lt, Int32.le_iff_toInt_le, ← Int32.toInt_inj, e_0, e_1, e_2, e_3, e_4, e_5, e_6, e_7, e_8, e_9, ek_k_3] at h13); (try simp only [Int32.lt_iff_toInt_lt, Int32.le_iff_toInt_le, ← Int32.toInt_inj, e_0, e_1, e_2, e_3, e_4, e_5, e_6, e_7, e_8, e_9, ek_k_3] at h17); (try simp only [Int32.lt_iff_toInt_lt, Int32.le_iff_toInt_le, ← Int32.toInt_inj, e_0, e_1, e_2, e_3, e_4, e_5, e_6, e_7, e_8, e_9, ek_k_3] at h29); (try simp only [Int32.lt_iff_toInt_lt, Int32.le_iff_toInt_le, ← Int32.toInt_inj, e_0, e_1, e_2, e_3, e_4, e_5, e_6, e_7, e_8, e_9, ek_k_3] at h33); (try simp only [Int32.lt_iff_toInt_lt, Int32.le_iff_toInt_le, ← Int32.toInt_inj, e_0, e_1, e_2, e_3, e_4, e_5, e_6, e_7, e_8, e_9, ek_k_3] at h52); unfold mSheet; (try simp only [ek_k_3]); split <;> first | rfl | (exfalso; omega) | (split <;> first | rfl | (exfalso; omega) | (split <;> first | rfl | (exfalso; omega) | (split <;> first | rfl | (exfalso; omega))))) (by clear hQ B hr hsc; have e_0 : (0 : Int32).toInt = 0 := (by decide); have e_1 : (1 : Int32).toInt = 1 := (by decide); have e_2 : (2 : Int32).toInt = 2 := (by decide); have e_3 : (3 : Int32).toInt = 3 := (by decide); have e_4 : (4 : Int32).toInt = 4 := (by decide); have e_5 : (8 : Int32).toInt = 8 := (by decide); have e_6 : (40 : Int32).toInt = 40 := (by decide); have e_7 : (240 : Int32).toInt = 240 := (by decide); have e_8 : ((-1) : Int32).toInt = -1 := (by decide); have e_9 : ((-14) : Int32).toInt = -14 := (by decide); have ek_k_3 : (nI k_3).toInt = (k_3 : Int) := nI_toInt (by omega); (try simp only [Int32.lt_iff_toInt_lt, Int32.le_iff_toInt_le, ← Int32.toInt_inj, e_0, e_1, e_2, e_3, e_4, e_5, e_6, e_7, e_8, e_9, ek_k_3] at h4); (try simp only [Int32.lt_iff_toInt_lt, Int32.le_iff_toInt_le, ← Int32.toInt_inj, e_0, e_1, e_2, e_3, e_4, e_5, e_6, e_7, e_8, e_9, ek_k_3] at hk_4); (try simp only [Int32.lt_iff_toInt_lt, Int32.le_iff_toInt_le, ← Int32.toInt_inj, e_0, e_1, e_2, e_3, e_4, e_5, e_6, e_7, e_8, e_9, ek_k_3] at h13); (try simp only [Int32.lt_iff_toInt_lt, Int32.le_iff_toInt_le, ← Int32.toInt_inj, e_0, e_1, e_2, e_3, e_4, e_5, e_6, e_7, e_8, e_9, ek_k_3] at h17); (try simp only [Int32.lt_iff_toInt_lt, Int32.le_iff_toInt_le, ← Int32.toInt_inj, e_0, e_1, e_2, e_3, e_4, e_5, e_6, e_7, e_8, e_9, ek_k_3] at h29); (try simp only [Int32.lt_iff_toInt_lt, Int32.le_iff_toInt_le, ← Int32.toInt_inj, e_0, e_1, e_2, e_3, e_4, e_5, e_6, e_7, e_8, e_9, ek_k_3] at h33); (try simp only [Int32.lt_iff_toInt_lt, Int32.le_iff_toInt_le, ← Int32.toInt_inj, e_0, e_1, e_2, e_3, e_4, e_5, e_6, e_7, e_8, e_9, ek_k_3] at h52); first | exact ln_upd_lo (by omega) (by omega) | exact ln_upd_hi (by omega) (by omega)) ShZ_0
          · refine s_bipush B dX9_sheet_36 bp_m14 ?_
            refine s_iret B hQ hr dX9_sheet_38 rfl ?_
            exact ⟨a_sorts, a_sizes, a_sheets, by clear hQ B hr hsc; have e_0 : (0 : Int32).toInt = 0 := (by decide); have e_1 : (1 : Int32).toInt = 1 := (by decide); have e_2 : (2 : Int32).toInt = 2 := (by decide); have e_3 : (3 : Int32).toInt = 3 := (by decide); have e_4 : (4 : Int32).toInt = 4 := (by decide); have e_5 : (8 : Int32).toInt = 8 := (by decide); have e_6 : (40 : Int32).toInt = 40 := (by decide); have e_7 : (240 : Int32).toInt = 240 := (by decide); have e_8 : ((-1) : Int32).toInt = -1 := (by decide); have e_9 : ((-14) : Int32).toInt = -14 := (by decide); have ek_k_3 : (nI k_3).toInt = (k_3 : Int) := nI_toInt (by omega); (try simp only [Int32.lt_iff_toInt_lt, Int32.le_iff_toInt_le, ← Int32.toInt_inj, e_0, e_1, e_2, e_3, e_4, e_5, e_6, e_7, e_8, e_9, ek_k_3] at h4); (try simp only [Int32.lt_iff_toInt_lt, Int32.le_iff_toInt_le, ← Int32.toInt_inj, e_0, e_1, e_2, e_3, e_4, e_5, e_6, e_7, e_8, e_9, ek_k_3] at hk_4); (try simp only [Int32.lt_iff_toInt_lt, Int32.le_iff_toInt_le, ← Int32.toInt_inj, e_0, e_1, e_2, e_3, e_4, e_5, e_6, e_7, e_8, e_9, ek_k_3] at h13); (try simp only [Int32.lt_iff_toInt_lt, Int32.le_iff_toInt_le, ← Int32.toInt_inj, e_0, e_1, e_2, e_3, e_4, e_5, e_6, e_7, e_8, e_9, ek_k_3] at h17); (try simp only [Int32.lt_iff_toInt_lt, Int32.le_iff_toInt_le, ← Int32.toInt_inj, e_0, e_1, e_2, e_3, e_4, e_5, e_6, e_7, e_8, e_9, ek_k_3] at h29); (try simp only [Int32.lt_iff_toInt_lt, Int32.le_iff_toInt_le, ← Int32.toInt_inj, e_0, e_1, e_2, e_3, e_4, e_5, e_6, e_7, e_8, e_9, ek_k_3] at h33); unfold mSheet; (try simp only [ek_k_3]); split <;> first | rfl | (exfalso; omega) | (split <;> first | rfl | (exfalso; omega) | (split <;> first | rfl | (exfalso; omega) | (split <;> first | rfl | (exfalso; omega)))), ok_a_sizes, fun j hj => mSo_no (by decide), fun j hj => mLn_no (by decide), (fun j i hj hi => by rw [← mIs_no (by decide)]), rfl⟩
      · refine s_iload_n B dX9_sheet_20 rfl 3 rfl ?_
        refine s_bipush B dX9_sheet_21 bp_40 ?_
        refine s_icmp_le (tgt := 28) B dX9_sheet_23 rfl (fun h23 => ?_) (fun h23 => ?_)
        · refine s_iload_n B dX9_sheet_28 rfl 2 rfl ?_
          refine s_if_lt (tgt := 39) B dX9_sheet_29 rfl (fun h29 => ?_) (fun h29 => ?_)
          · refine s_aload_n B dX9_sheet_39 rfl 0 rfl ?_
            refine s_get (T := TX9) B inX9 0 rfl rfl 29 (Nat.le_of_ble_eq_true rfl) fl_X9_59 rfl rfl dX9_sheet_40 ?_
            refine s_iload_n B dX9_sheet_43 rfl 1 rfl ?_
            refine s_iload_n B dX9_sheet_44 rfl 2 rfl ?_
            refine s_iastN (ws' := [_, _, _, _]) B 1 0 rfl rfl rfl dX9_sheet_45 (by omega) (by decide) ?_
            refine s_aload_n B dX9_sheet_46 rfl 0 rfl ?_
            refine s_get (T := TX9) B inX9 0 rfl rfl 30 (Nat.le_of_ble_eq_true rfl) fl_X9_62 rfl rfl dX9_sheet_47 ?_
            refine s_iload_n B dX9_sheet_50 rfl 1 rfl ?_
            refine s_iload_n B dX9_sheet_51 rfl 2 rfl ?_
            refine s_if_ge (tgt := 59) B dX9_sheet_52 rfl (fun h52 => ?_) (fun h52 => ?_)
            · obtain ⟨k_11, hk_12, rfl⟩ : ∃ k : Nat, k ≤ 40 ∧ y0 = nI k := nat_le (N := 40) (by clear hQ B hr hsc; grind) (show ¬ (40 : Int32) < y0 from (by clear hQ B hr hsc; grind)) (by first | decide | omega)
              refine s_iload_n B dX9_sheet_59 rfl 3 rfl ?_
              refine s_iastN (ws' := [_, _, _, _]) B 2 0 rfl rfl rfl dX9_sheet_60 (by omega) (by decide) ?_
              refine s_iconst B dX9_sheet_61 ic_0 ?_
              refine s_istore (lv' := [(4, _), (0, _), (1, _), (2, _), (3, _)]) B dX9_sheet_62 (Nat.le_of_ble_eq_true rfl) rfl ?_
              refine s_lv (lv' := [(0, _), (1, _), (4, _)]) [1, 2, 0] rfl ?_
              refine s_lve (lv' := [(0, .ref (b 0)), (1, .int (nI k_3)), (4, .int (nI 0))]) (by first | rfl | (simp only [if_pos, if_neg]; done)) ?_
              exact L64 _ 0 (upd a_sizes k_3 (nI k_11)) a_sheets (Nat.lt_succ_self _) h4 hk_4 h13 (by omega) (SizOk.put ok_a_sizes ⟨k_11, by omega, rfl⟩) (by clear hQ B hr hsc; have e_0 : (0 : Int32).toInt = 0 := (by decide); have e_1 : (1 : Int32).toInt = 1 := (by decide); have e_2 : (2 : Int32).toInt = 2 := (by decide); have e_3 : (3 : Int32).toInt = 3 := (by decide); have e_4 : (4 : Int32).toInt = 4 := (by decide); have e_5 : (8 : Int32).toInt = 8 := (by decide); have e_6 : (40 : Int32).toInt = 40 := (by decide); have e_7 : (240 : Int32).toInt = 240 := (by decide); have e_8 : ((-1) : Int32).toInt = -1 := (by decide); have e_9 : ((-14) : Int32).toInt = -14 := (by decide); have ek_k_11 : (nI k_11).toInt = (k_11 : Int) := nI_toInt (by omega); have ek_k_3 : (nI k_3).toInt = (k_3 : Int) := nI_toInt (by omega); (try simp only [Int32.lt_iff_toInt_lt, Int32.le_iff_toInt_le, ← Int32.toInt_inj, e_0, e_1, e_2, e_3, e_4, e_5, e_6, e_7, e_8, e_9, ek_k_11, ek_k_3] at h4); (try simp only [Int32.lt_iff_toInt_lt, Int32.le_iff_toInt_le, ← Int32.toInt_inj, e_0, e_1, e_2, e_3, e_4, e_5, e_6, e_7, e_8, e_9, ek_k_11, ek_k_3] at hk_4); (try simp only [Int32.lt_iff_toInt_lt, Int32.le_iff_toInt_le, ← Int32.toInt_inj, e_0, e_1, e_2, e_3, e_4, e_5, e_6, e_7, e_8, e_9, ek_k_11, ek_k_3] at h13); (try simp only [Int32.lt_iff_toInt_lt, Int32.le_iff_toInt_le, ← Int32.toInt_inj, e_0, e_1, e_2, e_3, e_4, e_5, e_6, e_7, e_8, e_9, ek_k_11, ek_k_3] at h17); (try simp only [Int32.lt_iff_toInt_lt, Int32.le_iff_toInt_le, ← Int32.toInt_inj, e_0, e_1, e_2, e_3, e_4, e_5, e_6, e_7, e_8, e_9, ek_k_11, ek_k_3] at h23); (try simp only [Int32.lt_iff_toInt_lt, Int32.le_iff_toInt_le, ← Int32.toInt_inj, e_0, e_1, e_2, e_3, e_4, e_5, e_6, e_7, e_8, e_9, ek_k_11, ek_k_3] at h29); (try simp only [Int32.lt_iff_toInt_lt, Int32.le_iff_toInt_le, ← Int32.toInt_inj, e_0, e_1, e_2, e_3, e_4, e_5, e_6, e_7, e_8, e_9, ek_k_11, ek_k_3] at h52); (try simp only [Int32.lt_iff_toInt_lt, Int32.le_iff_toInt_le, ← Int32.toInt_inj, e_0, e_1, e_2, e_3, e_4, e_5, e_6, e_7, e_8, e_9, ek_k_11, ek_k_3] at hk_12); unfold mSheet; (try simp only [ek_k_11, ek_k_3]); split <;> first | rfl | (exfalso; omega) | (split <;> first | rfl | (exfalso; omega) | (split <;> first | rfl | (exfalso; omega) | (split <;> first | rfl | (exfalso; omega))))) (by clear hQ B hr hsc; have e_0 : (0 : Int32).toInt = 0 := (by decide); have e_1 : (1 : Int32).toInt = 1 := (by decide); have e_2 : (2 : Int32).toInt = 2 := (by decide); have e_3 : (3 : Int32).toInt = 3 := (by decide); have e_4 : (4 : Int32).toInt = 4 := (by decide); have e_5 : (8 : Int32).toInt = 8 := (by decide); have e_6 : (40 : Int32).toInt = 40 := (by decide); have e_7 : (240 : Int32).toInt = 240 := (by decide); have e_8 : ((-1) : Int32).toInt = -1 := (by decide); have e_9 : ((-14) : Int32).toInt = -14 := (by decide); have ek_k_11 : (nI k_11).toInt = (k_11 : Int) := nI_toInt (by omega); have ek_k_3 : (nI k_3).toInt = (k_3 : Int) := nI_toInt (by omega); (try simp only [Int32.lt_iff_toInt_lt, Int32.le_iff_toInt_le, ← Int32.toInt_inj, e_0, e_1, e_2, e_3, e_4, e_5, e_6, e_7, e_8, e_9, ek_k_11, ek_k_3] at h4); (try simp only [Int32.lt_iff_toInt_lt, Int32.le_iff_toInt_le, ← Int32.toInt_inj, e_0, e_1, e_2, e_3, e_4, e_5, e_6, e_7, e_8, e_9, ek_k_11, ek_k_3] at hk_4); (try simp only [Int32.lt_iff_toInt_lt, Int32.le_iff_toInt_le, ← Int32.toInt_inj, e_0, e_1, e_2, e_3, e_4, e_5, e_6, e_7, e_8, e_9, ek_k_11, ek_k_3] at h13); (try simp only [Int32.lt_iff_toInt_lt, Int32.le_iff_toInt_le, ← Int32.toInt_inj, e_0, e_1, e_2, e_3, e_4, e_5, e_6, e_7, e_8, e_9, ek_k_11, ek_k_3] at h17); (try simp only [Int32.lt_iff_toInt_lt, Int32.le_iff_toInt_le, ← Int32.toInt_inj, e_0, e_1, e_2, e_3, e_4, e_5, e_6, e_7, e_8, e_9, ek_k_11, ek_k_3] at h23); (try simp only [Int32.lt_iff_toInt_lt, Int32.le_iff_toInt_le, ← Int32.toInt_inj, e_0, e_1, e_2, e_3, e_4, e_5, e_6, e_7, e_8, e_9, ek_k_11, ek_k_3] at h29); (try simp only [Int32.lt_iff_toInt_lt, Int32.le_iff_toInt_le, ← Int32.toInt_inj, e_0, e_1, e_2, e_3, e_4, e_5, e_6, e_7, e_8, e_9, ek_k_11, ek_k_3] at h52); (try simp only [Int32.lt_iff_toInt_lt, Int32.le_iff_toInt_le, ← Int32.toInt_inj, e_0, e_1, e_2, e_3, e_4, e_5, e_6, e_7, e_8, e_9, ek_k_11, ek_k_3] at hk_12); first | exact ln_upd_lo (by omega) (by omega) | exact ln_upd_hi (by omega) (by omega)) ShZ_0
            · refine s_iconst B dX9_sheet_55 ic_0 ?_
              refine s_goto (tgt := 60) B dX9_sheet_56 rfl ?_
              refine s_iastN (ws' := [_, _, _, _]) B 2 0 rfl rfl rfl dX9_sheet_60 (by omega) (by decide) ?_
              refine s_iconst B dX9_sheet_61 ic_0 ?_
              refine s_istore (lv' := [(4, _), (0, _), (1, _), (2, _), (3, _)]) B dX9_sheet_62 (Nat.le_of_ble_eq_true rfl) rfl ?_
              refine s_lv (lv' := [(0, _), (1, _), (4, _)]) [1, 2, 0] rfl ?_
              refine s_lve (lv' := [(0, .ref (b 0)), (1, .int (nI k_3)), (4, .int (nI 0))]) (by first | rfl | (simp only [if_pos, if_neg]; done)) ?_
              exact L64 _ 0 (upd a_sizes k_3 0) a_sheets (Nat.lt_succ_self _) h4 hk_4 h13 (by omega) (SizOk.put ok_a_sizes ⟨0, by omega, rfl⟩) (by clear hQ B hr hsc; have e_0 : (0 : Int32).toInt = 0 := (by decide); have e_1 : (1 : Int32).toInt = 1 := (by decide); have e_2 : (2 : Int32).toInt = 2 := (by decide); have e_3 : (3 : Int32).toInt = 3 := (by decide); have e_4 : (4 : Int32).toInt = 4 := (by decide); have e_5 : (8 : Int32).toInt = 8 := (by decide); have e_6 : (40 : Int32).toInt = 40 := (by decide); have e_7 : (240 : Int32).toInt = 240 := (by decide); have e_8 : ((-1) : Int32).toInt = -1 := (by decide); have e_9 : ((-14) : Int32).toInt = -14 := (by decide); have ek_k_3 : (nI k_3).toInt = (k_3 : Int) := nI_toInt (by omega); (try simp only [Int32.lt_iff_toInt_lt, Int32.le_iff_toInt_le, ← Int32.toInt_inj, e_0, e_1, e_2, e_3, e_4, e_5, e_6, e_7, e_8, e_9, ek_k_3] at h4); (try simp only [Int32.lt_iff_toInt_lt, Int32.le_iff_toInt_le, ← Int32.toInt_inj, e_0, e_1, e_2, e_3, e_4, e_5, e_6, e_7, e_8, e_9, ek_k_3] at hk_4); (try simp only [Int32.lt_iff_toInt_lt, Int32.le_iff_toInt_le, ← Int32.toInt_inj, e_0, e_1, e_2, e_3, e_4, e_5, e_6, e_7, e_8, e_9, ek_k_3] at h13); (try simp only [Int32.lt_iff_toInt_lt, Int32.le_iff_toInt_le, ← Int32.toInt_inj, e_0, e_1, e_2, e_3, e_4, e_5, e_6, e_7, e_8, e_9, ek_k_3] at h17); (try simp only [Int32.lt_iff_toInt_lt, Int32.le_iff_toInt_le, ← Int32.toInt_inj, e_0, e_1, e_2, e_3, e_4, e_5, e_6, e_7, e_8, e_9, ek_k_3] at h23); (try simp only [Int32.lt_iff_toInt_lt, Int32.le_iff_toInt_le, ← Int32.toInt_inj, e_0, e_1, e_2, e_3, e_4, e_5, e_6, e_7, e_8, e_9, ek_k_3] at h29); (try simp only [Int32.lt_iff_toInt_lt, Int32.le_iff_toInt_le, ← Int32.toInt_inj, e_0, e_1, e_2, e_3, e_4, e_5, e_6, e_7, e_8, e_9, ek_k_3] at h52); unfold mSheet; (try simp only [ek_k_3]); split <;> first | rfl | (exfalso; omega) | (split <;> first | rfl | (exfalso; omega) | (split <;> first | rfl | (exfalso; omega) | (split <;> first | rfl | (exfalso; omega))))) (by clear hQ B hr hsc; have e_0 : (0 : Int32).toInt = 0 := (by decide); have e_1 : (1 : Int32).toInt = 1 := (by decide); have e_2 : (2 : Int32).toInt = 2 := (by decide); have e_3 : (3 : Int32).toInt = 3 := (by decide); have e_4 : (4 : Int32).toInt = 4 := (by decide); have e_5 : (8 : Int32).toInt = 8 := (by decide); have e_6 : (40 : Int32).toInt = 40 := (by decide); have e_7 : (240 : Int32).toInt = 240 := (by decide); have e_8 : ((-1) : Int32).toInt = -1 := (by decide); have e_9 : ((-14) : Int32).toInt = -14 := (by decide); have ek_k_3 : (nI k_3).toInt = (k_3 : Int) := nI_toInt (by omega); (try simp only [Int32.lt_iff_toInt_lt, Int32.le_iff_toInt_le, ← Int32.toInt_inj, e_0, e_1, e_2, e_3, e_4, e_5, e_6, e_7, e_8, e_9, ek_k_3] at h4); (try simp only [Int32.lt_iff_toInt_lt, Int32.le_iff_toInt_le, ← Int32.toInt_inj, e_0, e_1, e_2, e_3, e_4, e_5, e_6, e_7, e_8, e_9, ek_k_3] at hk_4); (try simp only [Int32.lt_iff_toInt_lt, Int32.le_iff_toInt_le, ← Int32.toInt_inj, e_0, e_1, e_2, e_3, e_4, e_5, e_6, e_7, e_8, e_9, ek_k_3] at h13); (try simp only [Int32.lt_iff_toInt_lt, Int32.le_iff_toInt_le, ← Int32.toInt_inj, e_0, e_1, e_2, e_3, e_4, e_5, e_6, e_7, e_8, e_9, ek_k_3] at h17); (try simp only [Int32.lt_iff_toInt_lt, Int32.le_iff_toInt_le, ← Int32.toInt_inj, e_0, e_1, e_2, e_3, e_4, e_5, e_6, e_7, e_8, e_9, ek_k_3] at h23); (try simp only [Int32.lt_iff_toInt_lt, Int32.le_iff_toInt_le, ← Int32.toInt_inj, e_0, e_1, e_2, e_3, e_4, e_5, e_6, e_7, e_8, e_9, ek_k_3] at h29); (try simp only [Int32.lt_iff_toInt_lt, Int32.le_iff_toInt_le, ← Int32.toInt_inj, e_0, e_1, e_2, e_3, e_4, e_5, e_6, e_7, e_8, e_9, ek_k_3] at h52); first | exact ln_upd_lo (by omega) (by omega) | exact ln_upd_hi (by omega) (by omega)) ShZ_0
          · refine s_iload_n B dX9_sheet_32 rfl 3 rfl ?_
            refine s_if_ge (tgt := 39) B dX9_sheet_33 rfl (fun h33 => ?_) (fun h33 => ?_)
            · refine s_aload_n B dX9_sheet_39 rfl 0 rfl ?_
              refine s_get (T := TX9) B inX9 0 rfl rfl 29 (Nat.le_of_ble_eq_true rfl) fl_X9_59 rfl rfl dX9_sheet_40 ?_
              refine s_iload_n B dX9_sheet_43 rfl 1 rfl ?_
              refine s_iload_n B dX9_sheet_44 rfl 2 rfl ?_
              refine s_iastN (ws' := [_, _, _, _]) B 1 0 rfl rfl rfl dX9_sheet_45 (by omega) (by decide) ?_
              refine s_aload_n B dX9_sheet_46 rfl 0 rfl ?_
              refine s_get (T := TX9) B inX9 0 rfl rfl 30 (Nat.le_of_ble_eq_true rfl) fl_X9_62 rfl rfl dX9_sheet_47 ?_
              refine s_iload_n B dX9_sheet_50 rfl 1 rfl ?_
              refine s_iload_n B dX9_sheet_51 rfl 2 rfl ?_
              refine s_if_ge (tgt := 59) B dX9_sheet_52 rfl (fun h52 => ?_) (fun h52 => ?_)
              · obtain ⟨k_13, hk_14, rfl⟩ : ∃ k : Nat, k ≤ 40 ∧ y0 = nI k := nat_le (N := 40) (by clear hQ B hr hsc; grind) (show ¬ (40 : Int32) < y0 from (by clear hQ B hr hsc; grind)) (by first | decide | omega)
                refine s_iload_n B dX9_sheet_59 rfl 3 rfl ?_
                refine s_iastN (ws' := [_, _, _, _]) B 2 0 rfl rfl rfl dX9_sheet_60 (by omega) (by decide) ?_
                refine s_iconst B dX9_sheet_61 ic_0 ?_
                refine s_istore (lv' := [(4, _), (0, _), (1, _), (2, _), (3, _)]) B dX9_sheet_62 (Nat.le_of_ble_eq_true rfl) rfl ?_
                refine s_lv (lv' := [(0, _), (1, _), (4, _)]) [1, 2, 0] rfl ?_
                refine s_lve (lv' := [(0, .ref (b 0)), (1, .int (nI k_3)), (4, .int (nI 0))]) (by first | rfl | (simp only [if_pos, if_neg]; done)) ?_
                exact L64 _ 0 (upd a_sizes k_3 (nI k_13)) a_sheets (Nat.lt_succ_self _) h4 hk_4 h13 (by omega) (SizOk.put ok_a_sizes ⟨k_13, by omega, rfl⟩) (by clear hQ B hr hsc; have e_0 : (0 : Int32).toInt = 0 := (by decide); have e_1 : (1 : Int32).toInt = 1 := (by decide); have e_2 : (2 : Int32).toInt = 2 := (by decide); have e_3 : (3 : Int32).toInt = 3 := (by decide); have e_4 : (4 : Int32).toInt = 4 := (by decide); have e_5 : (8 : Int32).toInt = 8 := (by decide); have e_6 : (40 : Int32).toInt = 40 := (by decide); have e_7 : (240 : Int32).toInt = 240 := (by decide); have e_8 : ((-1) : Int32).toInt = -1 := (by decide); have e_9 : ((-14) : Int32).toInt = -14 := (by decide); have ek_k_13 : (nI k_13).toInt = (k_13 : Int) := nI_toInt (by omega); have ek_k_3 : (nI k_3).toInt = (k_3 : Int) := nI_toInt (by omega); (try simp only [Int32.lt_iff_toInt_lt, Int32.le_iff_toInt_le, ← Int32.toInt_inj, e_0, e_1, e_2, e_3, e_4, e_5, e_6, e_7, e_8, e_9, ek_k_13, ek_k_3] at h4); (try simp only [Int32.lt_iff_toInt_lt, Int32.le_iff_toInt_le, ← Int32.toInt_inj, e_0, e_1, e_2, e_3, e_4, e_5, e_6, e_7, e_8, e_9, ek_k_13, ek_k_3] at hk_4); (try simp only [Int32.lt_iff_toInt_lt, Int32.le_iff_toInt_le, ← Int32.toInt_inj, e_0, e_1, e_2, e_3, e_4, e_5, e_6, e_7, e_8, e_9, ek_k_13, ek_k_3] at h13); (try simp only [Int32.lt_iff_toInt_lt, Int32.le_iff_toInt_le, ← Int32.toInt_inj, e_0, e_1, e_2, e_3, e_4, e_5, e_6, e_7, e_8, e_9, ek_k_13, ek_k_3] at h17); (try simp only [Int32.lt_iff_toInt_lt, Int32.le_iff_toInt_le, ← Int32.toInt_inj, e_0, e_1, e_2, e_3, e_4, e_5, e_6, e_7, e_8, e_9, ek_k_13, ek_k_3] at h23); (try simp only [Int32.lt_iff_toInt_lt, Int32.le_iff_toInt_le, ← Int32.toInt_inj, e_0, e_1, e_2, e_3, e_4, e_5, e_6, e_7, e_8, e_9, ek_k_13, ek_k_3] at h29); (try simp only [Int32.lt_iff_toInt_lt, Int32.le_iff_toInt_le, ← Int32.toInt_inj, e_0, e_1, e_2, e_3, e_4, e_5, e_6, e_7, e_8, e_9, ek_k_13, ek_k_3] at h33); (try simp only [Int32.lt_iff_toInt_lt, Int32.le_iff_toInt_le, ← Int32.toInt_inj, e_0, e_1, e_2, e_3, e_4, e_5, e_6, e_7, e_8, e_9, ek_k_13, ek_k_3] at h52); (try simp only [Int32.lt_iff_toInt_lt, Int32.le_iff_toInt_le, ← Int32.toInt_inj, e_0, e_1, e_2, e_3, e_4, e_5, e_6, e_7, e_8, e_9, ek_k_13, ek_k_3] at hk_14); unfold mSheet; (try simp only [ek_k_13, ek_k_3]); split <;> first | rfl | (exfalso; omega) | (split <;> first | rfl | (exfalso; omega) | (split <;> first | rfl | (exfalso; omega) | (split <;> first | rfl | (exfalso; omega))))) (by clear hQ B hr hsc; have e_0 : (0 : Int32).toInt = 0 := (by decide); have e_1 : (1 : Int32).toInt = 1 := (by decide); have e_2 : (2 : Int32).toInt = 2 := (by decide); have e_3 : (3 : Int32).toInt = 3 := (by decide); have e_4 : (4 : Int32).toInt = 4 := (by decide); have e_5 : (8 : Int32).toInt = 8 := (by decide); have e_6 : (40 : Int32).toInt = 40 := (by decide); have e_7 : (240 : Int32).toInt = 240 := (by decide); have e_8 : ((-1) : Int32).toInt = -1 := (by decide); have e_9 : ((-14) : Int32).toInt = -14 := (by decide); have ek_k_13 : (nI k_13).toInt = (k_13 : Int) := nI_toInt (by omega); have ek_k_3 : (nI k_3).toInt = (k_3 : Int) := nI_toInt (by omega); (try simp only [Int32.lt_iff_toInt_lt, Int32.le_iff_toInt_le, ← Int32.toInt_inj, e_0, e_1, e_2, e_3, e_4, e_5, e_6, e_7, e_8, e_9, ek_k_13, ek_k_3] at h4); (try simp only [Int32.lt_iff_toInt_lt, Int32.le_iff_toInt_le, ← Int32.toInt_inj, e_0, e_1, e_2, e_3, e_4, e_5, e_6, e_7, e_8, e_9, ek_k_13, ek_k_3] at hk_4); (try simp only [Int32.lt_iff_toInt_lt, Int32.le_iff_toInt_le, ← Int32.toInt_inj, e_0, e_1, e_2, e_3, e_4, e_5, e_6, e_7, e_8, e_9, ek_k_13, ek_k_3] at h13); (try simp only [Int32.lt_iff_toInt_lt, Int32.le_iff_toInt_le, ← Int32.toInt_inj, e_0, e_1, e_2, e_3, e_4, e_5, e_6, e_7, e_8, e_9, ek_k_13, ek_k_3] at h17); (try simp only [Int32.lt_iff_toInt_lt, Int32.le_iff_toInt_le, ← Int32.toInt_inj, e_0, e_1, e_2, e_3, e_4, e_5, e_6, e_7, e_8, e_9, ek_k_13, ek_k_3] at h23); (try simp only [Int32.lt_iff_toInt_lt, Int32.le_iff_toInt_le, ← Int32.toInt_inj, e_0, e_1, e_2, e_3, e_4, e_5, e_6, e_7, e_8, e_9, ek_k_13, ek_k_3] at h29); (try simp only [Int32.lt_iff_toInt_lt, Int32.le_iff_toInt_le, ← Int32.toInt_inj, e_0, e_1, e_2, e_3, e_4, e_5, e_6, e_7, e_8, e_9, ek_k_13, ek_k_3] at h33); (try simp only [Int32.lt_iff_toInt_lt, Int32.le_iff_toInt_le, ← Int32.toInt_inj, e_0, e_1, e_2, e_3, e_4, e_5, e_6, e_7, e_8, e_9, ek_k_13, ek_k_3] at h52); (try simp only [Int32.lt_iff_toInt_lt, Int32.le_iff_toInt_le, ← Int32.toInt_inj, e_0, e_1, e_2, e_3, e_4, e_5, e_6, e_7, e_8, e_9, ek_k_13, ek_k_3] at hk_14); first | exact ln_upd_lo (by omega) (by omega) | exact ln_upd_hi (by omega) (by omega)) ShZ_0
              · refine s_iconst B dX9_sheet_55 ic_0 ?_
                refine s_goto (tgt := 60) B dX9_sheet_56 rfl ?_
                refine s_iastN (ws' := [_, _, _, _]) B 2 0 rfl rfl rfl dX9_sheet_60 (by omega) (by decide) ?_
                refine s_iconst B dX9_sheet_61 ic_0 ?_
                refine s_istore (lv' := [(4, _), (0, _), (1, _), (2, _), (3, _)]) B dX9_sheet_62 (Nat.le_of_ble_eq_true rfl) rfl ?_
                refine s_lv (lv' := [(0, _), (1, _), (4, _)]) [1, 2, 0] rfl ?_
                refine s_lve (lv' := [(0, .ref (b 0)), (1, .int (nI k_3)), (4, .int (nI 0))]) (by first | rfl | (simp only [if_pos, if_neg]; done)) ?_
                exact L64 _ 0 (upd a_sizes k_3 0) a_sheets (Nat.lt_succ_self _) h4 hk_4 h13 (by omega) (SizOk.put ok_a_sizes ⟨0, by omega, rfl⟩) (by clear hQ B hr hsc; have e_0 : (0 : Int32).toInt = 0 := (by decide); have e_1 : (1 : Int32).toInt = 1 := (by decide); have e_2 : (2 : Int32).toInt = 2 := (by decide); have e_3 : (3 : Int32).toInt = 3 := (by decide); have e_4 : (4 : Int32).toInt = 4 := (by decide); have e_5 : (8 : Int32).toInt = 8 := (by decide); have e_6 : (40 : Int32).toInt = 40 := (by decide); have e_7 : (240 : Int32).toInt = 240 := (by decide); have e_8 : ((-1) : Int32).toInt = -1 := (by decide); have e_9 : ((-14) : Int32).toInt = -14 := (by decide); have ek_k_3 : (nI k_3).toInt = (k_3 : Int) := nI_toInt (by omega); (try simp only [Int32.lt_iff_toInt_lt, Int32.le_iff_toInt_le, ← Int32.toInt_inj, e_0, e_1, e_2, e_3, e_4, e_5, e_6, e_7, e_8, e_9, ek_k_3] at h4); (try simp only [Int32.lt_iff_toInt_lt, Int32.le_iff_toInt_le, ← Int32.toInt_inj, e_0, e_1, e_2, e_3, e_4, e_5, e_6, e_7, e_8, e_9, ek_k_3] at hk_4); (try simp only [Int32.lt_iff_toInt_lt, Int32.le_iff_toInt_le, ← Int32.toInt_inj, e_0, e_1, e_2, e_3, e_4, e_5, e_6, e_7, e_8, e_9, ek_k_3] at h13); (try simp only [Int32.lt_iff_toInt_lt, Int32.le_iff_toInt_le, ← Int32.toInt_inj, e_0, e_1, e_2, e_3, e_4, e_5, e_6, e_7, e_8, e_9, ek_k_3] at h17); (try simp only [Int32.lt_iff_toInt_lt, Int32.le_iff_toInt_le, ← Int32.toInt_inj, e_0, e_1, e_2, e_3, e_4, e_5, e_6, e_7, e_8, e_9, ek_k_3] at h23); (try simp only [Int32.lt_iff_toInt_lt, Int32.le_iff_toInt_le, ← Int32.toInt_inj, e_0, e_1, e_2, e_3, e_4, e_5, e_6, e_7, e_8, e_9, ek_k_3] at h29); (try simp only [Int32.lt_iff_toInt_lt, Int32.le_iff_toInt_le, ← Int32.toInt_inj, e_0, e_1, e_2, e_3, e_4, e_5, e_6, e_7, e_8, e_9, ek_k_3] at h33); (try simp only [Int32.lt_iff_toInt_lt, Int32.le_iff_toInt_le, ← Int32.toInt_inj, e_0, e_1, e_2, e_3, e_4, e_5, e_6, e_7, e_8, e_9, ek_k_3] at h52); unfold mSheet; (try simp only [ek_k_3]); split <;> first | rfl | (exfalso; omega) | (split <;> first | rfl | (exfalso; omega) | (split <;> first | rfl | (exfalso; omega) | (split <;> first | rfl | (exfalso; omega))))) (by clear hQ B hr hsc; have e_0 : (0 : Int32).toInt = 0 := (by decide); have e_1 : (1 : Int32).toInt = 1 := (by decide); have e_2 : (2 : Int32).toInt = 2 := (by decide); have e_3 : (3 : Int32).toInt = 3 := (by decide); have e_4 : (4 : Int32).toInt = 4 := (by decide); have e_5 : (8 : Int32).toInt = 8 := (by decide); have e_6 : (40 : Int32).toInt = 40 := (by decide); have e_7 : (240 : Int32).toInt = 240 := (by decide); have e_8 : ((-1) : Int32).toInt = -1 := (by decide); have e_9 : ((-14) : Int32).toInt = -14 := (by decide); have ek_k_3 : (nI k_3).toInt = (k_3 : Int) := nI_toInt (by omega); (try simp only [Int32.lt_iff_toInt_lt, Int32.le_iff_toInt_le, ← Int32.toInt_inj, e_0, e_1, e_2, e_3, e_4, e_5, e_6, e_7, e_8, e_9, ek_k_3] at h4); (try simp only [Int32.lt_iff_toInt_lt, Int32.le_iff_toInt_le, ← Int32.toInt_inj, e_0, e_1, e_2, e_3, e_4, e_5, e_6, e_7, e_8, e_9, ek_k_3] at hk_4); (try simp only [Int32.lt_iff_toInt_lt, Int32.le_iff_toInt_le, ← Int32.toInt_inj, e_0, e_1, e_2, e_3, e_4, e_5, e_6, e_7, e_8, e_9, ek_k_3] at h13); (try simp only [Int32.lt_iff_toInt_lt, Int32.le_iff_toInt_le, ← Int32.toInt_inj, e_0, e_1, e_2, e_3, e_4, e_5, e_6, e_7, e_8, e_9, ek_k_3] at h17); (try simp only [Int32.lt_iff_toInt_lt, Int32.le_iff_toInt_le, ← Int32.toInt_inj, e_0, e_1, e_2, e_3, e_4, e_5, e_6, e_7, e_8, e_9, ek_k_3] at h23); (try simp only [Int32.lt_iff_toInt_lt, Int32.le_iff_toInt_le, ← Int32.toInt_inj, e_0, e_1, e_2, e_3, e_4, e_5, e_6, e_7, e_8, e_9, ek_k_3] at h29); (try simp only [Int32.lt_iff_toInt_lt, Int32.le_iff_toInt_le, ← Int32.toInt_inj, e_0, e_1, e_2, e_3, e_4, e_5, e_6, e_7, e_8, e_9, ek_k_3] at h33); (try simp only [Int32.lt_iff_toInt_lt, Int32.le_iff_toInt_le, ← Int32.toInt_inj, e_0, e_1, e_2, e_3, e_4, e_5, e_6, e_7, e_8, e_9, ek_k_3] at h52); first | exact ln_upd_lo (by omega) (by omega) | exact ln_upd_hi (by omega) (by omega)) ShZ_0
            · refine s_bipush B dX9_sheet_36 bp_m14 ?_
              refine s_iret B hQ hr dX9_sheet_38 rfl ?_
              exact ⟨a_sorts, a_sizes, a_sheets, by clear hQ B hr hsc; have e_0 : (0 : Int32).toInt = 0 := (by decide); have e_1 : (1 : Int32).toInt = 1 := (by decide); have e_2 : (2 : Int32).toInt = 2 := (by decide); have e_3 : (3 : Int32).toInt = 3 := (by decide); have e_4 : (4 : Int32).toInt = 4 := (by decide); have e_5 : (8 : Int32).toInt = 8 := (by decide); have e_6 : (40 : Int32).toInt = 40 := (by decide); have e_7 : (240 : Int32).toInt = 240 := (by decide); have e_8 : ((-1) : Int32).toInt = -1 := (by decide); have e_9 : ((-14) : Int32).toInt = -14 := (by decide); have ek_k_3 : (nI k_3).toInt = (k_3 : Int) := nI_toInt (by omega); (try simp only [Int32.lt_iff_toInt_lt, Int32.le_iff_toInt_le, ← Int32.toInt_inj, e_0, e_1, e_2, e_3, e_4, e_5, e_6, e_7, e_8, e_9, ek_k_3] at h4); (try simp only [Int32.lt_iff_toInt_lt, Int32.le_iff_toInt_le, ← Int32.toInt_inj, e_0, e_1, e_2, e_3, e_4, e_5, e_6, e_7, e_8, e_9, ek_k_3] at hk_4); (try simp only [Int32.lt_iff_toInt_lt, Int32.le_iff_toInt_le, ← Int32.toInt_inj, e_0, e_1, e_2, e_3, e_4, e_5, e_6, e_7, e_8, e_9, ek_k_3] at h13); (try simp only [Int32.lt_iff_toInt_lt, Int32.le_iff_toInt_le, ← Int32.toInt_inj, e_0, e_1, e_2, e_3, e_4, e_5, e_6, e_7, e_8, e_9, ek_k_3] at h17); (try simp only [Int32.lt_iff_toInt_lt, Int32.le_iff_toInt_le, ← Int32.toInt_inj, e_0, e_1, e_2, e_3, e_4, e_5, e_6, e_7, e_8, e_9, ek_k_3] at h23); (try simp only [Int32.lt_iff_toInt_lt, Int32.le_iff_toInt_le, ← Int32.toInt_inj, e_0, e_1, e_2, e_3, e_4, e_5, e_6, e_7, e_8, e_9, ek_k_3] at h29); (try simp only [Int32.lt_iff_toInt_lt, Int32.le_iff_toInt_le, ← Int32.toInt_inj, e_0, e_1, e_2, e_3, e_4, e_5, e_6, e_7, e_8, e_9, ek_k_3] at h33); unfold mSheet; (try simp only [ek_k_3]); split <;> first | rfl | (exfalso; omega) | (split <;> first | rfl | (exfalso; omega) | (split <;> first | rfl | (exfalso; omega) | (split <;> first | rfl | (exfalso; omega)))), ok_a_sizes, fun j hj => mSo_no (by decide), fun j hj => mLn_no (by decide), (fun j i hj hi => by rw [← mIs_no (by decide)]), rfl⟩
        · refine s_iconst B dX9_sheet_26 ic_m1 ?_
          refine s_iret B hQ hr dX9_sheet_27 rfl ?_
          exact ⟨a_sorts, a_sizes, a_sheets, by clear hQ B hr hsc; have e_0 : (0 : Int32).toInt = 0 := (by decide); have e_1 : (1 : Int32).toInt = 1 := (by decide); have e_2 : (2 : Int32).toInt = 2 := (by decide); have e_3 : (3 : Int32).toInt = 3 := (by decide); have e_4 : (4 : Int32).toInt = 4 := (by decide); have e_5 : (8 : Int32).toInt = 8 := (by decide); have e_6 : (40 : Int32).toInt = 40 := (by decide); have e_7 : (240 : Int32).toInt = 240 := (by decide); have e_8 : ((-1) : Int32).toInt = -1 := (by decide); have e_9 : ((-14) : Int32).toInt = -14 := (by decide); have ek_k_3 : (nI k_3).toInt = (k_3 : Int) := nI_toInt (by omega); (try simp only [Int32.lt_iff_toInt_lt, Int32.le_iff_toInt_le, ← Int32.toInt_inj, e_0, e_1, e_2, e_3, e_4, e_5, e_6, e_7, e_8, e_9, ek_k_3] at h4); (try simp only [Int32.lt_iff_toInt_lt, Int32.le_iff_toInt_le, ← Int32.toInt_inj, e_0, e_1, e_2, e_3, e_4, e_5, e_6, e_7, e_8, e_9, ek_k_3] at hk_4); (try simp only [Int32.lt_iff_toInt_lt, Int32.le_iff_toInt_le, ← Int32.toInt_inj, e_0, e_1, e_2, e_3, e_4, e_5, e_6, e_7, e_8, e_9, ek_k_3] at h13); (try simp only [Int32.lt_iff_toInt_lt, Int32.le_iff_toInt_le, ← Int32.toInt_inj, e_0, e_1, e_2, e_3, e_4, e_5, e_6, e_7, e_8, e_9, ek_k_3] at h17); (try simp only [Int32.lt_iff_toInt_lt, Int32.le_iff_toInt_le, ← Int32.toInt_inj, e_0, e_1, e_2, e_3, e_4, e_5, e_6, e_7, e_8, e_9, ek_k_3] at h23); unfold mSheet; (try simp only [ek_k_3]); split <;> first | rfl | (exfalso; omega) | (split <;> first | rfl | (exfalso; omega) | (split <;> first | rfl | (exfalso; omega) | (split <;> first | rfl | (exfalso; omega)))), ok_a_sizes, fun j hj => mSo_no (by decide), fun j hj => mLn_no (by decide), (fun j i hj hi => by rw [← mIs_no (by decide)]), rfl⟩
