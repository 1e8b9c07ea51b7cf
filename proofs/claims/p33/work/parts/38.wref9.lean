def rmX9_set : Room := { frames := 1, cells := 0, slots := 0, locals := 22 }
theorem hd_X9_set : yX9_set.cls = RX9 ∧ yX9_set.cls ≠ "java/lang/invoke/MethodHandle" ∧ yX9_set.cls ≠ "java/lang/invoke/VarHandle" ∧ (parseMethodDescriptor yX9_set.desc).map (fun d => d.parameters.length) = some 2 := by decide +kernel
set_option maxHeartbeats 4000000 in
set_option maxRecDepth 100000 in
theorem c_X9_set (l : Launch) (D : va_G) (g : Nat → ClassId) (b : Nat → Nat) (I : Nat → Int32) (W : Int64) (n p0 t q mm bd : Nat) (a_leastOf : Nat → Int32) (a_mostOf : Nat → Int32) (a_laws : Nat → Int32) (c0 : Int32) (v0 : Int32) (hn : n ≤ 8) (hp : p0 = 0 ∨ p0 = 25) (ht : t ≤ 240) (hq0 : q ≤ 20) (hmm : mm ≤ 20) (hbd : bd ≤ 30) (hpre0 : LwT a_leastOf a_mostOf) : Ci l yX9_set (WW yX9_set cX9_set 5 (some FieldType.int)) rmX9_set D vwCl (TY g) [.ref (b 0), .int c0, .int v0] [(b 0, .inr (9, [.int (nI n), .ref (b 1), .ref (b 2), .int (nI p0), .ref (b 3), .ref (b 4), .ref (b 5), .ref (b 6), .ref (b 7), .ref (b 8), .int (I 10), .ref (b 9), .int (nI t), .int (I 13), .int (I 14), .int (I 15), .long W, .int (I 17), .int (I 18), .int (I 19), .int (I 20), .ref (b 10), .ref (b 11), .ref (b 12), .ref (b 13), .ref (b 14), .ref (b 15), .int (nI q), .int (nI mm), .ref (b 16), .ref (b 17), .ref (b 18), .ref (b 19), .ref (b 20), .ref (b 21), .int (I 35), .int (I 36), .int (I 37), .ref (b 22), .int (nI bd), .int (I 40), .int (I 41), .ref (b 23), .int (I 43), .ref (b 24)])), (b 7, .inl (g 0, 4, .inl a_leastOf)), (b 8, .inl (g 0, 4, .inl a_mostOf)), (b 6, .inl (g 0, 4, .inl a_laws))] (fun r u => ∃ (a_laws' : Nat → Int32), (∀ (G : MG) (ch9 rw9 ev9 cr9 tr9 : MA), RG G n ch9 rw9 ev9 cr9 tr9 a_laws (I 10) → RG (gSet c0 v0 G) n ch9 rw9 ev9 cr9 tr9 a_laws' (I 10) ∧ r = aSet c0 v0 G) ∧ u = [(b 0, .inr (9, [.int (nI n), .ref (b 1), .ref (b 2), .int (nI p0), .ref (b 3), .ref (b 4), .ref (b 5), .ref (b 6), .ref (b 7), .ref (b 8), .int (I 10), .ref (b 9), .int (nI t), .int (I 13), .int (I 14), .int (I 15), .long W, .int (I 17), .int (I 18), .int (I 19), .int (I 20), .ref (b 10), .ref (b 11), .ref (b 12), .ref (b 13), .ref (b 14), .ref (b 15), .int (nI q), .int (nI mm), .ref (b 16), .ref (b 17), .ref (b 18), .ref (b 19), .ref (b 20), .ref (b 21), .int (I 35), .int (I 36), .int (I 37), .ref (b 22), .int (nI bd), .int (I 40), .int (I 41), .ref (b 23), .int (I 43), .ref (b 24)])), (b 7, .inl (g 0, 4, .inl a_leastOf)), (b 8, .inl (g 0, 4, .inl a_mostOf)), (b 6, .inl (g 0, 4, .inl a_laws'))]) := by
  refine ci_in (by decide) (Nat.le_of_ble_eq_true rfl) (a0 := [b 0, b 7, b 8, b 6]) rfl (fun p e s m args below meth c A Q hQ B hr hsc => ?_)
  refine s_iload_n B dX9_set_0 rfl 1 rfl ?_
  refine s_iconst B dX9_set_1 ic_0 ?_
  refine s_iconst B dX9_set_2 ic_3 ?_
  refine s_callSi B hsc (c_X9_in l D g c0 0 3) (gw_S ml_X9_87 sm_yX9_in ini_RX9 co_yX9_in) hd_X9_in rfl rfl ⟨(Nat.le_of_ble_eq_true rfl), (Nat.le_of_ble_eq_true rfl)⟩ [] [0, 1, 2, 3, 4] rfl rfl rfl rfl rfl (Nat.le_of_ble_eq_true rfl) dX9_set_3 (fun r_1 u_2 hpo => ?_)
  obtain ⟨rfl, rfl⟩ := hpo
  refine s_st (st' := [.int (if ¬ c0 < 0 ∧ ¬ 3 < c0 then 1 else 0)]) rfl ?_
  refine s_ws (ws' := [(b 0, .inr (9, [.int (nI n), .ref (b 1), .ref (b 2), .int (nI p0), .ref (b 3), .ref (b 4), .ref (b 5), .ref (b 6), .ref (b 7), .ref (b 8), .int (I 10), .ref (b 9), .int (nI t), .int (I 13), .int (I 14), .int (I 15), .long W, .int (I 17), .int (I 18), .int (I 19), .int (I 20), .ref (b 10), .ref (b 11), .ref (b 12), .ref (b 13), .ref (b 14), .ref (b 15), .int (nI q), .int (nI mm), .ref (b 16), .ref (b 17), .ref (b 18), .ref (b 19), .ref (b 20), .ref (b 21), .int (I 35), .int (I 36), .int (I 37), .ref (b 22), .int (nI bd), .int (I 40), .int (I 41), .ref (b 23), .int (I 43), .ref (b 24)])), (b 7, .inl (g 0, 4, .inl a_leastOf)), (b 8, .inl (g 0, 4, .inl a_mostOf)), (b 6, .inl (g 0, 4, .inl a_laws))]) rfl ?_
  refine s_bif_eq (tgt := 13) B dX9_set_6 rfl (fun h6 => ?_) (fun h6 => ?_)
  · refine s_iconst B dX9_set_13 ic_0 ?_
    refine s_istore_n (lv' := [(3, _), (0, _), (1, _), (2, _)]) B dX9_set_14 rfl (Nat.le_of_ble_eq_true rfl) rfl ?_
    refine s_iload_n B dX9_set_15 rfl 0 rfl ?_
    refine s_iload_n B dX9_set_16 rfl 2 rfl ?_
    refine s_icmp_ne (tgt := 39) B dX9_set_17 rfl (fun h17 => ?_) (fun h17 => ?_)
    · refine s_iconst B dX9_set_39 ic_m1 ?_
      refine s_iret B hQ hr dX9_set_40 rfl ?_
      exact ⟨a_laws, (fun G ch9 rw9 ev9 cr9 tr9 H => (H.set_no h6)), rfl⟩
    · exact absurd (show ¬ c0 < 0 ∧ ¬ 3 < c0 from by rw [← h17]; decide) h6
  · obtain ⟨k_3, hk_4, rfl⟩ := nat_le (N := 3) h6.1 h6.2 (by decide)
    refine s_iload_n B dX9_set_9 rfl 1 rfl ?_
    refine s_goto (tgt := 14) B dX9_set_10 rfl ?_
    refine s_istore_n (lv' := [(3, _), (0, _), (1, _), (2, _)]) B dX9_set_14 rfl (Nat.le_of_ble_eq_true rfl) rfl ?_
    refine s_iload_n B dX9_set_15 rfl 0 rfl ?_
    refine s_iload_n B dX9_set_16 rfl 2 rfl ?_
    refine s_icmp_ne (tgt := 39) B dX9_set_17 rfl (fun h17 => ?_) (fun h17 => ?_)
    · replace h17 : ¬ k_3 = k_3 := fun hh => h17 ((nI_eq (a := k_3) (b := k_3) (by omega) (by omega)).mpr hh)
      refine s_iconst B dX9_set_39 ic_m1 ?_
      refine s_iret B hQ hr dX9_set_40 rfl ?_
      exact ⟨a_laws, (fun G ch9 rw9 ev9 cr9 tr9 H => (absurd rfl h17)), rfl⟩
    · replace h17 : k_3 = k_3 := (nI_eq (a := k_3) (b := k_3) (by omega) (by omega)).mp h17
      refine s_iload_n B dX9_set_20 rfl 3 rfl ?_
      refine s_aload_n B dX9_set_21 rfl 1 rfl ?_
      refine s_get (T := TX9) B inX9 0 rfl rfl 8 (Nat.le_of_ble_eq_true rfl) fl_X9_28 rfl rfl dX9_set_22 ?_
      refine s_iload_n B dX9_set_25 rfl 0 rfl ?_
      refine s_ialdN B 1 0 rfl rfl dX9_set_26 (by omega) (by decide) ?_
      refine s_aload_n B dX9_set_27 rfl 1 rfl ?_
      refine s_get (T := TX9) B inX9 0 rfl rfl 9 (Nat.le_of_ble_eq_true rfl) fl_X9_31 rfl rfl dX9_set_28 ?_
      refine s_iload_n B dX9_set_31 rfl 0 rfl ?_
      refine s_ialdN B 2 0 rfl rfl dX9_set_32 (by omega) (by decide) ?_
      refine s_callSi B hsc (c_X9_in l D g v0 (a_leastOf k_3) (a_mostOf k_3)) (gw_S ml_X9_87 sm_yX9_in ini_RX9 co_yX9_in) hd_X9_in rfl rfl ⟨(Nat.le_of_ble_eq_true rfl), (Nat.le_of_ble_eq_true rfl)⟩ [] [0, 1, 2, 3, 4] rfl rfl rfl rfl rfl (Nat.le_of_ble_eq_true rfl) dX9_set_33 (fun r_5 u_6 hpo => ?_)
      obtain ⟨rfl, rfl⟩ := hpo
      refine s_st (st' := [.int (if ¬ v0 < (a_leastOf k_3) ∧ ¬ (a_mostOf k_3) < v0 then 1 else 0)]) rfl ?_
      refine s_ws (ws' := [(b 0, .inr (9, [.int (nI n), .ref (b 1), .ref (b 2), .int (nI p0), .ref (b 3), .ref (b 4), .ref (b 5), .ref (b 6), .ref (b 7), .ref (b 8), .int (I 10), .ref (b 9), .int (nI t), .int (I 13), .int (I 14), .int (I 15), .long W, .int (I 17), .int (I 18), .int (I 19), .int (I 20), .ref (b 10), .ref (b 11), .ref (b 12), .ref (b 13), .ref (b 14), .ref (b 15), .int (nI q), .int (nI mm), .ref (b 16), .ref (b 17), .ref (b 18), .ref (b 19), .ref (b 20), .ref (b 21), .int (I 35), .int (I 36), .int (I 37), .ref (b 22), .int (nI bd), .int (I 40), .int (I 41), .ref (b 23), .int (I 43), .ref (b 24)])), (b 7, .inl (g 0, 4, .inl a_leastOf)), (b 8, .inl (g 0, 4, .inl a_mostOf)), (b 6, .inl (g 0, 4, .inl a_laws))]) rfl ?_
      refine s_bif_ne (tgt := 41) B dX9_set_36 rfl (fun h36 => ?_) (fun h36 => ?_)
      · refine s_aload_n B dX9_set_41 rfl 1 rfl ?_
        refine s_get (T := TX9) B inX9 0 rfl rfl 7 (Nat.le_of_ble_eq_true rfl) fl_X9_25 rfl rfl dX9_set_42 ?_
        refine s_iload_n B dX9_set_45 rfl 2 rfl ?_
        refine s_ialdN B 3 0 rfl rfl dX9_set_46 (by omega) (by decide) ?_
        refine s_istore (lv' := [(4, _), (3, _), (0, _), (1, _), (2, _)]) B dX9_set_47 (Nat.le_of_ble_eq_true rfl) rfl ?_
        refine s_aload_n B dX9_set_49 rfl 2 rfl ?_
        refine s_get (T := TX9) B inX9 0 rfl rfl 7 (Nat.le_of_ble_eq_true rfl) fl_X9_25 rfl rfl dX9_set_50 ?_
        refine s_iload_n B dX9_set_53 rfl 3 rfl ?_
        refine s_iload_n B dX9_set_54 rfl 4 rfl ?_
        refine s_iastN (ws' := [_, _, _, _]) B 3 0 rfl rfl rfl dX9_set_55 (by omega) (by decide) ?_
        refine s_iload B dX9_set_56 0 rfl ?_
        refine s_iret B hQ hr dX9_set_58 rfl ?_
        exact ⟨(upd a_laws k_3 v0), (fun G ch9 rw9 ev9 cr9 tr9 H => (H.set_ok hpre0 (by omega) h36)), rfl⟩
      · refine s_iconst B dX9_set_39 ic_m1 ?_
        refine s_iret B hQ hr dX9_set_40 rfl ?_
        exact ⟨a_laws, (fun G ch9 rw9 ev9 cr9 tr9 H => (H.set_nv hpre0 (by omega) h36)), rfl⟩
