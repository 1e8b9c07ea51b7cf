def rmX9_isChild : Room := { frames := 1, cells := 0, slots := 0, locals := 22 }
theorem hd_X9_isChild : yX9_isChild.cls = RX9 ∧ yX9_isChild.cls ≠ "java/lang/invoke/MethodHandle" ∧ yX9_isChild.cls ≠ "java/lang/invoke/VarHandle" ∧ (parseMethodDescriptor yX9_isChild.desc).map (fun d => d.parameters.length) = some 1 := by decide +kernel
set_option maxHeartbeats 4000000 in
set_option maxRecDepth 100000 in
theorem c_X9_isChild (l : Launch) (D : va_G) (g : Nat → ClassId) (b : Nat → Nat) (I : Nat → Int32) (W : Int64) (n p0 : Nat)  (c0 : Int32) : Ci l yX9_isChild (WW yX9_isChild cX9_isChild 2 (some FieldType.boolean)) rmX9_isChild D vwCl (TY g) [.ref (b 0), .int c0] [(b 0, .inr (9, [.int (nI n), .ref (b 1), .ref (b 2), .int (nI p0), .ref (b 3), .ref (b 4), .ref (b 5), .ref (b 6), .ref (b 7), .ref (b 8), .int (I 10), .ref (b 9), .int (I 12), .int (I 13), .int (I 14), .int (I 15), .long W, .int (I 17), .int (I 18), .int (I 19), .int (I 20), .ref (b 10), .ref (b 11), .ref (b 12), .ref (b 13), .ref (b 14), .ref (b 15), .int (I 27), .int (I 28), .ref (b 16), .ref (b 17), .ref (b 18), .ref (b 19), .ref (b 20), .ref (b 21), .int (I 35), .int (I 36), .int (I 37), .ref (b 22), .int (I 39), .int (I 40), .int (I 41), .ref (b 23), .int (I 43), .ref (b 24)]))] (fun r u => r = (if ¬ c0 < 0 ∧ ¬ nI n - 1 < c0 then 1 else 0) ∧ u = [(b 0, .inr (9, [.int (nI n), .ref (b 1), .ref (b 2), .int (nI p0), .ref (b 3), .ref (b 4), .ref (b 5), .ref (b 6), .ref (b 7), .ref (b 8), .int (I 10), .ref (b 9), .int (I 12), .int (I 13), .int (I 14), .int (I 15), .long W, .int (I 17), .int (I 18), .int (I 19), .int (I 20), .ref (b 10), .ref (b 11), .ref (b 12), .ref (b 13), .ref (b 14), .ref (b 15), .int (I 27), .int (I 28), .ref (b 16), .ref (b 17), .ref (b 18), .ref (b 19), .ref (b 20), .ref (b 21), .int (I 35), .int (I 36), .int (I 37), .ref (b 22), .int (I 39), .int (I 40), .int (I 41), .ref (b 23), .int (I 43), .ref (b 24)]))]) := by
  refine ci_in (by decide) (Nat.le_of_ble_eq_true rfl) (a0 := [b 0]) rfl (fun p e s m args below meth c A Q hQ B hr hsc => ?_)
  refine s_iload_n B dX9_isChild_0 rfl 1 rfl ?_
  refine s_iconst B dX9_isChild_1 ic_0 ?_
  refine s_aload_n B dX9_isChild_2 rfl 0 rfl ?_
  refine s_get (T := TX9) B inX9 0 rfl rfl 0 (Nat.le_of_ble_eq_true rfl) fl_X9_91 rfl rfl dX9_isChild_3 ?_
  refine s_iconst B dX9_isChild_6 ic_1 ?_
  refine s_isub B dX9_isChild_7 ?_
  refine s_callSi B hsc (c_X9_in l D g c0 0 ((nI n) - 1)) (gw_S ml_X9_87 sm_yX9_in ini_RX9 co_yX9_in) hd_X9_in rfl rfl ⟨(Nat.le_of_ble_eq_true rfl), (Nat.le_of_ble_eq_true rfl)⟩ [] [0, 1, 2, 3, 4] rfl rfl rfl rfl rfl (Nat.le_of_ble_eq_true rfl) dX9_isChild_8 (fun r u hpo => ?_)
  obtain ⟨rfl, rfl⟩ := hpo
  refine s_st (st' := [.int (if ¬ c0 < 0 ∧ ¬ ((nI n) - 1) < c0 then 1 else 0)]) rfl ?_
  refine s_ws (ws' := [(b 0, .inr (9, [.int (nI n), .ref (b 1), .ref (b 2), .int (nI p0), .ref (b 3), .ref (b 4), .ref (b 5), .ref (b 6), .ref (b 7), .ref (b 8), .int (I 10), .ref (b 9), .int (I 12), .int (I 13), .int (I 14), .int (I 15), .long W, .int (I 17), .int (I 18), .int (I 19), .int (I 20), .ref (b 10), .ref (b 11), .ref (b 12), .ref (b 13), .ref (b 14), .ref (b 15), .int (I 27), .int (I 28), .ref (b 16), .ref (b 17), .ref (b 18), .ref (b 19), .ref (b 20), .ref (b 21), .int (I 35), .int (I 36), .int (I 37), .ref (b 22), .int (I 39), .int (I 40), .int (I 41), .ref (b 23), .int (I 43), .ref (b 24)]))]) rfl ?_
  refine s_zret B hQ hr dX9_isChild_11 rfl (z_if _) ?_
  exact ⟨by clear hQ B hr hsc; grind, rfl⟩
def rmX9_its : Room := { frames := 0, cells := 0, slots := 0, locals := 0 }
theorem hd_X9_its : yX9_its.cls = RX9 ∧ yX9_its.cls ≠ "java/lang/invoke/MethodHandle" ∧ yX9_its.cls ≠ "java/lang/invoke/VarHandle" ∧ (parseMethodDescriptor yX9_its.desc).map (fun d => d.parameters.length) = some 2 := by decide +kernel
set_option maxHeartbeats 4000000 in
set_option maxRecDepth 100000 in
theorem c_X9_its (l : Launch) (D : va_G) (g : Nat → ClassId) (b : Nat → Nat) (I : Nat → Int32) (W : Int64) (n p0 : Nat) (a_child : Nat → Int32) (k w0 : Nat) (hk : k < 8) (hw : w0 < 4) : Ci l yX9_its (WW yX9_its cX9_its 3 (some FieldType.int)) rmX9_its D vwCl (TY g) [.ref (b 0), .int (nI k), .int (nI w0)] [(b 0, .inr (9, [.int (nI n), .ref (b 1), .ref (b 2), .int (nI p0), .ref (b 3), .ref (b 4), .ref (b 5), .ref (b 6), .ref (b 7), .ref (b 8), .int (I 10), .ref (b 9), .int (I 12), .int (I 13), .int (I 14), .int (I 15), .long W, .int (I 17), .int (I 18), .int (I 19), .int (I 20), .ref (b 10), .ref (b 11), .ref (b 12), .ref (b 13), .ref (b 14), .ref (b 15), .int (I 27), .int (I 28), .ref (b 16), .ref (b 17), .ref (b 18), .ref (b 19), .ref (b 20), .ref (b 21), .int (I 35), .int (I 36), .int (I 37), .ref (b 22), .int (I 39), .int (I 40), .int (I 41), .ref (b 23), .int (I 43), .ref (b 24)])), (b 1, .inl (g 0, 32, .inl a_child))] (fun r u => r = a_child (4 * k + w0) ∧ u = [(b 0, .inr (9, [.int (nI n), .ref (b 1), .ref (b 2), .int (nI p0), .ref (b 3), .ref (b 4), .ref (b 5), .ref (b 6), .ref (b 7), .ref (b 8), .int (I 10), .ref (b 9), .int (I 12), .int (I 13), .int (I 14), .int (I 15), .long W, .int (I 17), .int (I 18), .int (I 19), .int (I 20), .ref (b 10), .ref (b 11), .ref (b 12), .ref (b 13), .ref (b 14), .ref (b 15), .int (I 27), .int (I 28), .ref (b 16), .ref (b 17), .ref (b 18), .ref (b 19), .ref (b 20), .ref (b 21), .int (I 35), .int (I 36), .int (I 37), .ref (b 22), .int (I 39), .int (I 40), .int (I 41), .ref (b 23), .int (I 43), .ref (b 24)])), (b 1, .inl (g 0, 32, .inl a_child))]) := by
  refine ci_in (by decide) (Nat.le_of_ble_eq_true rfl) (a0 := [b 0, b 1]) rfl (fun p e s m args below meth c A Q hQ B hr hsc => ?_)
  refine s_aload_n B dX9_its_0 rfl 0 rfl ?_
  refine s_get (T := TX9) B inX9 0 rfl rfl 1 (Nat.le_of_ble_eq_true rfl) fl_X9_7 rfl rfl dX9_its_1 ?_
  refine s_iconst B dX9_its_4 ic_4 ?_
  refine s_iload_n B dX9_its_5 rfl 1 rfl ?_
  refine s_imulE B dX9_its_6 (pk_mul 4 k) ?_
  refine s_iload_n B dX9_its_7 rfl 2 rfl ?_
  refine s_iaddE B dX9_its_8 (nI_add (4 * k) w0) ?_
  refine s_ialdN B 1 0 rfl rfl dX9_its_9 (by omega) (by decide) ?_
  refine s_iret B hQ hr dX9_its_10 rfl ?_
  exact ⟨rfl, rfl⟩
def rmX9_staysAway : Room := { frames := 1, cells := 0, slots := 0, locals := 21 }
theorem hd_X9_staysAway : yX9_staysAway.cls = RX9 ∧ yX9_staysAway.cls ≠ "java/lang/invoke/MethodHandle" ∧ yX9_staysAway.cls ≠ "java/lang/invoke/VarHandle" ∧ (parseMethodDescriptor yX9_staysAway.desc).map (fun d => d.parameters.length) = some 5 := by decide +kernel
set_option maxHeartbeats 4000000 in
set_option maxRecDepth 100000 in
theorem c_X9_staysAway (l : Launch) (D : va_G) (g : Nat → ClassId) (b : Nat → Nat) (I : Nat → Int32) (W : Int64) (n p0 : Nat) (a_events : Nat → Int32) (a_laws : Nat → Int32) (kd0 a0 : Int32) (d : Nat) (s0 : Bool) (w0 : Int32) (hd : d < 40) : Ci l yX9_staysAway (WW yX9_staysAway cX9_staysAway 8 (some FieldType.boolean)) rmX9_staysAway D vwCl (TY g) [.ref (b 0), .int kd0, .int a0, .int (nI d), .int (if s0 = true then 1 else 0), .int w0] [(b 0, .inr (9, [.int (nI n), .ref (b 1), .ref (b 2), .int (nI p0), .ref (b 3), .ref (b 4), .ref (b 5), .ref (b 6), .ref (b 7), .ref (b 8), .int (I 10), .ref (b 9), .int (I 12), .int (I 13), .int (I 14), .int (I 15), .long W, .int (I 17), .int (I 18), .int (I 19), .int (I 20), .ref (b 10), .ref (b 11), .ref (b 12), .ref (b 13), .ref (b 14), .ref (b 15), .int (I 27), .int (I 28), .ref (b 16), .ref (b 17), .ref (b 18), .ref (b 19), .ref (b 20), .ref (b 21), .int (I 35), .int (I 36), .int (I 37), .ref (b 22), .int (I 39), .int (I 40), .int (I 41), .ref (b 23), .int (I 43), .ref (b 24)])), (b 3, .inl (g 0, 40, .inl a_events)), (b 6, .inl (g 0, 4, .inl a_laws))] (fun r u => r = (if mStay kd0 a0 (nI d) (a_events d) s0 w0 (a_laws 1) then 1 else 0) ∧ u = [(b 0, .inr (9, [.int (nI n), .ref (b 1), .ref (b 2), .int (nI p0), .ref (b 3), .ref (b 4), .ref (b 5), .ref (b 6), .ref (b 7), .ref (b 8), .int (I 10), .ref (b 9), .int (I 12), .int (I 13), .int (I 14), .int (I 15), .long W, .int (I 17), .int (I 18), .int (I 19), .int (I 20), .ref (b 10), .ref (b 11), .ref (b 12), .ref (b 13), .ref (b 14), .ref (b 15), .int (I 27), .int (I 28), .ref (b 16), .ref (b 17), .ref (b 18), .ref (b 19), .ref (b 20), .ref (b 21), .int (I 35), .int (I 36), .int (I 37), .ref (b 22), .int (I 39), .int (I 40), .int (I 41), .ref (b 23), .int (I 43), .ref (b 24)])), (b 3, .inl (g 0, 40, .inl a_events)), (b 6, .inl (g 0, 4, .inl a_laws))]) := by
  refine ci_in (by decide) (Nat.le_of_ble_eq_true rfl) (a0 := [b 0, b 3, b 6]) rfl (fun p e s m args below meth c A Q hQ B hr hsc => ?_)
  have M160 : (¬ kd0 = 1) → (¬ kd0 = 2) → (kd0 = 3) → (¬ ¬ (a_events d) &&& 1 = 0) → (¬ ¬ (a_events d) &&& 4 = 0) → (((a0 < 5)) ∨ ((¬ a0 < 5) ∧ (¬ ((nI d) - (nI d) / 5 * 5) = 0) ∧ (¬ ((nI d) - (nI d) / 5 * 5) = 4))) → Sx p l e rmX9_staysAway s m args below meth c D vwCl A 8 Q 160 [(0, .ref (b 0)), (1, .int kd0), (2, .int a0), (3, .int (nI d)), (4, .int (if s0 = true then 1 else 0)), (5, .int w0), (6, .int (a_events d)), (7, .int ((nI d) - (nI d) / 5 * 5))] [] [(b 0, .inr (9, [.int (nI n), .ref (b 1), .ref (b 2), .int (nI p0), .ref (b 3), .ref (b 4), .ref (b 5), .ref (b 6), .ref (b 7), .ref (b 8), .int (I 10), .ref (b 9), .int (I 12), .int (I 13), .int (I 14), .int (I 15), .long W, .int (I 17), .int (I 18), .int (I 19), .int (I 20), .ref (b 10), .ref (b 11), .ref (b 12), .ref (b 13), .ref (b 14), .ref (b 15), .int (I 27), .int (I 28), .ref (b 16), .ref (b 17), .ref (b 18), .ref (b 19), .ref (b 20), .ref (b 21), .int (I 35), .int (I 36), .int (I 37), .ref (b 22), .int (I 39), .int (I 40), .int (I 41), .ref (b 23), .int (I 43), .ref (b 24)])), (b 3, .inl (g 0, 40, .inl a_events)), (b 6, .inl (g 0, 4, .inl a_laws))] := by
    intro hm160_0 hm160_1 hm160_2 hm160_3 hm160_4 hm160_5
    refine s_iload B dX9_staysAway_160 5 rfl ?_
    refine s_aload_n B dX9_staysAway_162 rfl 0 rfl ?_
    refine s_get (T := TX9) B inX9 0 rfl rfl 7 (Nat.le_of_ble_eq_true rfl) fl_X9_25 rfl rfl dX9_staysAway_163 ?_
    refine s_iconst B dX9_staysAway_166 ic_1 ?_
    refine s_ialdN B 2 0 rfl rfl dX9_staysAway_167 (by decide) (by decide) ?_
    refine s_icmp_lt (tgt := 175) B dX9_staysAway_168 rfl (fun h168 => ?_) (fun h168 => ?_)
    · refine s_iconst B dX9_staysAway_175 ic_0 ?_
      refine s_zret B hQ hr dX9_staysAway_176 rfl rfl ?_
      exact ⟨by clear hQ B hr hsc; grind [mStay], rfl⟩
    · refine s_iconst B dX9_staysAway_171 ic_1 ?_
      refine s_goto (tgt := 176) B dX9_staysAway_172 rfl ?_
      refine s_zret B hQ hr dX9_staysAway_176 rfl rfl ?_
      exact ⟨by clear hQ B hr hsc; grind [mStay], rfl⟩
  refine s_aload_n B dX9_staysAway_0 rfl 0 rfl ?_
  refine s_get (T := TX9) B inX9 0 rfl rfl 4 (Nat.le_of_ble_eq_true rfl) fl_X9_16 rfl rfl dX9_staysAway_1 ?_
  refine s_iload_n B dX9_staysAway_4 rfl 3 rfl ?_
  refine s_ialdN B 1 0 rfl rfl dX9_staysAway_5 (by omega) (by decide) ?_
  refine s_istore (lv' := [(6, _), (0, _), (1, _), (2, _), (3, _), (4, _), (5, _)]) B dX9_staysAway_6 (Nat.le_of_ble_eq_true rfl) rfl ?_
  refine s_iload_n B dX9_staysAway_8 rfl 4 rfl ?_
  refine s_iconst B dX9_staysAway_9 ic_5 ?_
  refine s_irem B dX9_staysAway_10 (by decide) ?_
  refine s_istore (lv' := [(7, _), (6, _), (0, _), (1, _), (2, _), (3, _), (4, _), (5, _)]) B dX9_staysAway_11 (Nat.le_of_ble_eq_true rfl) rfl ?_
  refine s_iload_n B dX9_staysAway_13 rfl 3 rfl ?_
  by_cases k14_1 : kd0 = 1
  · refine s_tableIn (off := 34) (tgt := 48) B dX9_staysAway_14 (by rw [k14_1]; decide) (by rw [k14_1]; decide) (by rw [k14_1]; rfl) rfl ?_
    refine s_iload B dX9_staysAway_48 1 rfl ?_
    refine s_iconst B dX9_staysAway_50 ic_2 ?_
    refine s_callSi B hsc (c_X9_has l D g (a_events d) 2) (gw_S ml_X9_215 sm_yX9_has ini_RX9 co_yX9_has) hd_X9_has rfl rfl ⟨(Nat.le_of_ble_eq_true rfl), (Nat.le_of_ble_eq_true rfl)⟩ [] [0, 1, 2, 3, 4] rfl rfl rfl rfl rfl (Nat.le_of_ble_eq_true rfl) dX9_staysAway_51 (fun r u hpo => ?_)
    obtain ⟨rfl, rfl⟩ := hpo
    refine s_st (st' := [.int (if ¬ (a_events d) &&& 2 = 0 then 1 else 0)]) rfl ?_
    refine s_ws (ws' := [(b 0, .inr (9, [.int (nI n), .ref (b 1), .ref (b 2), .int (nI p0), .ref (b 3), .ref (b 4), .ref (b 5), .ref (b 6), .ref (b 7), .ref (b 8), .int (I 10), .ref (b 9), .int (I 12), .int (I 13), .int (I 14), .int (I 15), .long W, .int (I 17), .int (I 18), .int (I 19), .int (I 20), .ref (b 10), .ref (b 11), .ref (b 12), .ref (b 13), .ref (b 14), .ref (b 15), .int (I 27), .int (I 28), .ref (b 16), .ref (b 17), .ref (b 18), .ref (b 19), .ref (b 20), .ref (b 21), .int (I 35), .int (I 36), .int (I 37), .ref (b 22), .int (I 39), .int (I 40), .int (I 41), .ref (b 23), .int (I 43), .ref (b 24)])), (b 3, .inl (g 0, 40, .inl a_events)), (b 6, .inl (g 0, 4, .inl a_laws))]) rfl ?_
    refine s_bif_ne (tgt := 65) B dX9_staysAway_54 rfl (fun h54 => ?_) (fun h54 => ?_)
    · refine s_iconst B dX9_staysAway_65 ic_1 ?_
      refine s_goto (tgt := 70) B dX9_staysAway_66 rfl ?_
      refine s_zret B hQ hr dX9_staysAway_70 rfl rfl ?_
      exact ⟨by clear hQ B hr hsc; grind [mStay], rfl⟩
    · refine s_iload B dX9_staysAway_57 0 rfl ?_
      refine s_iload_n B dX9_staysAway_59 rfl 4 rfl ?_
      refine s_iconst B dX9_staysAway_60 ic_5 ?_
      refine s_irem B dX9_staysAway_61 (by decide) ?_
      refine s_icmp_ne (tgt := 69) B dX9_staysAway_62 rfl (fun h62 => ?_) (fun h62 => ?_)
      · refine s_iconst B dX9_staysAway_69 ic_0 ?_
        refine s_zret B hQ hr dX9_staysAway_70 rfl rfl ?_
        exact ⟨by clear hQ B hr hsc; grind [mStay], rfl⟩
      · refine s_iconst B dX9_staysAway_65 ic_1 ?_
        refine s_goto (tgt := 70) B dX9_staysAway_66 rfl ?_
        refine s_zret B hQ hr dX9_staysAway_70 rfl rfl ?_
        exact ⟨by clear hQ B hr hsc; grind [mStay], rfl⟩
  · by_cases k14_2 : kd0 = 2
    · refine s_tableIn (off := 89) (tgt := 103) B dX9_staysAway_14 (by rw [k14_2]; decide) (by rw [k14_2]; decide) (by rw [k14_2]; rfl) rfl ?_
      refine s_iload B dX9_staysAway_103 6 rfl ?_
      refine s_zret B hQ hr dX9_staysAway_105 rfl (z_if _) ?_
      exact ⟨by clear hQ B hr hsc; grind [mStay], rfl⟩
    · by_cases k14_3 : kd0 = 3
      · refine s_tableIn (off := 112) (tgt := 126) B dX9_staysAway_14 (by rw [k14_3]; decide) (by rw [k14_3]; decide) (by rw [k14_3]; rfl) rfl ?_
        refine s_iload B dX9_staysAway_126 1 rfl ?_
        refine s_iconst B dX9_staysAway_128 ic_1 ?_
        refine s_callSi B hsc (c_X9_has l D g (a_events d) 1) (gw_S ml_X9_215 sm_yX9_has ini_RX9 co_yX9_has) hd_X9_has rfl rfl ⟨(Nat.le_of_ble_eq_true rfl), (Nat.le_of_ble_eq_true rfl)⟩ [] [0, 1, 2, 3, 4] rfl rfl rfl rfl rfl (Nat.le_of_ble_eq_true rfl) dX9_staysAway_129 (fun r u hpo => ?_)
        obtain ⟨rfl, rfl⟩ := hpo
        refine s_st (st' := [.int (if ¬ (a_events d) &&& 1 = 0 then 1 else 0)]) rfl ?_
        refine s_ws (ws' := [(b 0, .inr (9, [.int (nI n), .ref (b 1), .ref (b 2), .int (nI p0), .ref (b 3), .ref (b 4), .ref (b 5), .ref (b 6), .ref (b 7), .ref (b 8), .int (I 10), .ref (b 9), .int (I 12), .int (I 13), .int (I 14), .int (I 15), .long W, .int (I 17), .int (I 18), .int (I 19), .int (I 20), .ref (b 10), .ref (b 11), .ref (b 12), .ref (b 13), .ref (b 14), .ref (b 15), .int (I 27), .int (I 28), .ref (b 16), .ref (b 17), .ref (b 18), .ref (b 19), .ref (b 20), .ref (b 21), .int (I 35), .int (I 36), .int (I 37), .ref (b 22), .int (I 39), .int (I 40), .int (I 41), .ref (b 23), .int (I 43), .ref (b 24)])), (b 3, .inl (g 0, 40, .inl a_events)), (b 6, .inl (g 0, 4, .inl a_laws))]) rfl ?_
        refine s_bif_ne (tgt := 171) B dX9_staysAway_132 rfl (fun h132 => ?_) (fun h132 => ?_)
        · refine s_iconst B dX9_staysAway_171 ic_1 ?_
          refine s_goto (tgt := 176) B dX9_staysAway_172 rfl ?_
          refine s_zret B hQ hr dX9_staysAway_176 rfl rfl ?_
          exact ⟨by clear hQ B hr hsc; grind [mStay], rfl⟩
        · refine s_iload B dX9_staysAway_135 1 rfl ?_
          refine s_iconst B dX9_staysAway_137 ic_4 ?_
          refine s_callSi B hsc (c_X9_has l D g (a_events d) 4) (gw_S ml_X9_215 sm_yX9_has ini_RX9 co_yX9_has) hd_X9_has rfl rfl ⟨(Nat.le_of_ble_eq_true rfl), (Nat.le_of_ble_eq_true rfl)⟩ [] [0, 1, 2, 3, 4] rfl rfl rfl rfl rfl (Nat.le_of_ble_eq_true rfl) dX9_staysAway_138 (fun r u hpo => ?_)
          obtain ⟨rfl, rfl⟩ := hpo
          refine s_st (st' := [.int (if ¬ (a_events d) &&& 4 = 0 then 1 else 0)]) rfl ?_
          refine s_ws (ws' := [(b 0, .inr (9, [.int (nI n), .ref (b 1), .ref (b 2), .int (nI p0), .ref (b 3), .ref (b 4), .ref (b 5), .ref (b 6), .ref (b 7), .ref (b 8), .int (I 10), .ref (b 9), .int (I 12), .int (I 13), .int (I 14), .int (I 15), .long W, .int (I 17), .int (I 18), .int (I 19), .int (I 20), .ref (b 10), .ref (b 11), .ref (b 12), .ref (b 13), .ref (b 14), .ref (b 15), .int (I 27), .int (I 28), .ref (b 16), .ref (b 17), .ref (b 18), .ref (b 19), .ref (b 20), .ref (b 21), .int (I 35), .int (I 36), .int (I 37), .ref (b 22), .int (I 39), .int (I 40), .int (I 41), .ref (b 23), .int (I 43), .ref (b 24)])), (b 3, .inl (g 0, 40, .inl a_events)), (b 6, .inl (g 0, 4, .inl a_laws))]) rfl ?_
          refine s_bif_ne (tgt := 171) B dX9_staysAway_141 rfl (fun h141 => ?_) (fun h141 => ?_)
          · refine s_iconst B dX9_staysAway_171 ic_1 ?_
            refine s_goto (tgt := 176) B dX9_staysAway_172 rfl ?_
            refine s_zret B hQ hr dX9_staysAway_176 rfl rfl ?_
            exact ⟨by clear hQ B hr hsc; grind [mStay], rfl⟩
          · refine s_iload_n B dX9_staysAway_144 rfl 4 rfl ?_
            refine s_iconst B dX9_staysAway_145 ic_5 ?_
            refine s_icmp_lt (tgt := 160) B dX9_staysAway_146 rfl (fun h146 => ?_) (fun h146 => ?_)
            · refine s_lv (lv' := [(0, _), (1, _), (2, _), (3, _), (4, _), (5, _), (6, _), (7, _)]) [2, 3, 4, 5, 6, 7, 1, 0] rfl ?_
              exact M160 k14_1 k14_2 k14_3 h132 h141 (by clear hQ B hr hsc; grind)
            · refine s_iload B dX9_staysAway_149 0 rfl ?_
              refine s_if_eq (tgt := 171) B dX9_staysAway_151 rfl (fun h151 => ?_) (fun h151 => ?_)
              · refine s_iconst B dX9_staysAway_171 ic_1 ?_
                refine s_goto (tgt := 176) B dX9_staysAway_172 rfl ?_
                refine s_zret B hQ hr dX9_staysAway_176 rfl rfl ?_
                exact ⟨by clear hQ B hr hsc; grind [mStay], rfl⟩
              · refine s_iload B dX9_staysAway_154 0 rfl ?_
                refine s_iconst B dX9_staysAway_156 ic_4 ?_
                refine s_icmp_eq (tgt := 171) B dX9_staysAway_157 rfl (fun h157 => ?_) (fun h157 => ?_)
                · refine s_iconst B dX9_staysAway_171 ic_1 ?_
                  refine s_goto (tgt := 176) B dX9_staysAway_172 rfl ?_
                  refine s_zret B hQ hr dX9_staysAway_176 rfl rfl ?_
                  exact ⟨by clear hQ B hr hsc; grind [mStay], rfl⟩
                · refine s_lv (lv' := [(0, _), (1, _), (2, _), (3, _), (4, _), (5, _), (6, _), (7, _)]) [2, 3, 4, 5, 6, 7, 1, 0] rfl ?_
                  exact M160 k14_1 k14_2 k14_3 h132 h141 (by clear hQ B hr hsc; grind)
      · by_cases k14_4 : kd0 = 4
        · refine s_tableIn (off := 57) (tgt := 71) B dX9_staysAway_14 (by rw [k14_4]; decide) (by rw [k14_4]; decide) (by rw [k14_4]; rfl) rfl ?_
          refine s_iload B dX9_staysAway_71 1 rfl ?_
          refine s_iconst B dX9_staysAway_73 ic_2 ?_
          refine s_callSi B hsc (c_X9_has l D g (a_events d) 2) (gw_S ml_X9_215 sm_yX9_has ini_RX9 co_yX9_has) hd_X9_has rfl rfl ⟨(Nat.le_of_ble_eq_true rfl), (Nat.le_of_ble_eq_true rfl)⟩ [] [0, 1, 2, 3, 4] rfl rfl rfl rfl rfl (Nat.le_of_ble_eq_true rfl) dX9_staysAway_74 (fun r u hpo => ?_)
          obtain ⟨rfl, rfl⟩ := hpo
          refine s_st (st' := [.int (if ¬ (a_events d) &&& 2 = 0 then 1 else 0)]) rfl ?_
          refine s_ws (ws' := [(b 0, .inr (9, [.int (nI n), .ref (b 1), .ref (b 2), .int (nI p0), .ref (b 3), .ref (b 4), .ref (b 5), .ref (b 6), .ref (b 7), .ref (b 8), .int (I 10), .ref (b 9), .int (I 12), .int (I 13), .int (I 14), .int (I 15), .long W, .int (I 17), .int (I 18), .int (I 19), .int (I 20), .ref (b 10), .ref (b 11), .ref (b 12), .ref (b 13), .ref (b 14), .ref (b 15), .int (I 27), .int (I 28), .ref (b 16), .ref (b 17), .ref (b 18), .ref (b 19), .ref (b 20), .ref (b 21), .int (I 35), .int (I 36), .int (I 37), .ref (b 22), .int (I 39), .int (I 40), .int (I 41), .ref (b 23), .int (I 43), .ref (b 24)])), (b 3, .inl (g 0, 40, .inl a_events)), (b 6, .inl (g 0, 4, .inl a_laws))]) rfl ?_
          refine s_bif_ne (tgt := 97) B dX9_staysAway_77 rfl (fun h77 => ?_) (fun h77 => ?_)
          · refine s_iconst B dX9_staysAway_97 ic_1 ?_
            refine s_goto (tgt := 102) B dX9_staysAway_98 rfl ?_
            refine s_zret B hQ hr dX9_staysAway_102 rfl rfl ?_
            exact ⟨by clear hQ B hr hsc; grind [mStay], rfl⟩
          · refine s_iload B dX9_staysAway_80 0 rfl ?_
            refine s_iload_n B dX9_staysAway_82 rfl 4 rfl ?_
            refine s_iconst B dX9_staysAway_83 ic_5 ?_
            refine s_irem B dX9_staysAway_84 (by decide) ?_
            refine s_icmp_eq (tgt := 97) B dX9_staysAway_85 rfl (fun h85 => ?_) (fun h85 => ?_)
            · refine s_iconst B dX9_staysAway_97 ic_1 ?_
              refine s_goto (tgt := 102) B dX9_staysAway_98 rfl ?_
              refine s_zret B hQ hr dX9_staysAway_102 rfl rfl ?_
              exact ⟨by clear hQ B hr hsc; grind [mStay], rfl⟩
            · refine s_iload_n B dX9_staysAway_88 rfl 5 rfl ?_
              refine s_iload_n B dX9_staysAway_89 rfl 4 rfl ?_
              refine s_iadd B dX9_staysAway_90 ?_
              refine s_iconst B dX9_staysAway_91 ic_2 ?_
              refine s_irem B dX9_staysAway_92 (by decide) ?_
              refine s_iconst B dX9_staysAway_93 ic_1 ?_
              refine s_icmp_ne (tgt := 101) B dX9_staysAway_94 rfl (fun h94 => ?_) (fun h94 => ?_)
              · refine s_iconst B dX9_staysAway_101 ic_0 ?_
                refine s_zret B hQ hr dX9_staysAway_102 rfl rfl ?_
                exact ⟨by clear hQ B hr hsc; grind [mStay], rfl⟩
              · refine s_iconst B dX9_staysAway_97 ic_1 ?_
                refine s_goto (tgt := 102) B dX9_staysAway_98 rfl ?_
                refine s_zret B hQ hr dX9_staysAway_102 rfl rfl ?_
                exact ⟨by clear hQ B hr hsc; grind [mStay], rfl⟩
        · by_cases k14_5 : kd0 = 5
          · refine s_tableIn (off := 92) (tgt := 106) B dX9_staysAway_14 (by rw [k14_5]; decide) (by rw [k14_5]; decide) (by rw [k14_5]; rfl) rfl ?_
            refine s_iload B dX9_staysAway_106 6 rfl ?_
            refine s_bif_ne (tgt := 120) B dX9_staysAway_108 rfl (fun h108 => ?_) (fun h108 => ?_)
            · refine s_iconst B dX9_staysAway_120 ic_1 ?_
              refine s_goto (tgt := 125) B dX9_staysAway_121 rfl ?_
              refine s_zret B hQ hr dX9_staysAway_125 rfl rfl ?_
              exact ⟨by clear hQ B hr hsc; grind [mStay], rfl⟩
            · refine s_iload B dX9_staysAway_111 1 rfl ?_
              refine s_iconst B dX9_staysAway_113 ic_1 ?_
              refine s_callSi B hsc (c_X9_has l D g (a_events d) 1) (gw_S ml_X9_215 sm_yX9_has ini_RX9 co_yX9_has) hd_X9_has rfl rfl ⟨(Nat.le_of_ble_eq_true rfl), (Nat.le_of_ble_eq_true rfl)⟩ [] [0, 1, 2, 3, 4] rfl rfl rfl rfl rfl (Nat.le_of_ble_eq_true rfl) dX9_staysAway_114 (fun r u hpo => ?_)
              obtain ⟨rfl, rfl⟩ := hpo
              refine s_st (st' := [.int (if ¬ (a_events d) &&& 1 = 0 then 1 else 0)]) rfl ?_
              refine s_ws (ws' := [(b 0, .inr (9, [.int (nI n), .ref (b 1), .ref (b 2), .int (nI p0), .ref (b 3), .ref (b 4), .ref (b 5), .ref (b 6), .ref (b 7), .ref (b 8), .int (I 10), .ref (b 9), .int (I 12), .int (I 13), .int (I 14), .int (I 15), .long W, .int (I 17), .int (I 18), .int (I 19), .int (I 20), .ref (b 10), .ref (b 11), .ref (b 12), .ref (b 13), .ref (b 14), .ref (b 15), .int (I 27), .int (I 28), .ref (b 16), .ref (b 17), .ref (b 18), .ref (b 19), .ref (b 20), .ref (b 21), .int (I 35), .int (I 36), .int (I 37), .ref (b 22), .int (I 39), .int (I 40), .int (I 41), .ref (b 23), .int (I 43), .ref (b 24)])), (b 3, .inl (g 0, 40, .inl a_events)), (b 6, .inl (g 0, 4, .inl a_laws))]) rfl ?_
              refine s_bif_eq (tgt := 124) B dX9_staysAway_117 rfl (fun h117 => ?_) (fun h117 => ?_)
              · refine s_iconst B dX9_staysAway_124 ic_0 ?_
                refine s_zret B hQ hr dX9_staysAway_125 rfl rfl ?_
                exact ⟨by clear hQ B hr hsc; grind [mStay], rfl⟩
              · refine s_iconst B dX9_staysAway_120 ic_1 ?_
                refine s_goto (tgt := 125) B dX9_staysAway_121 rfl ?_
                refine s_zret B hQ hr dX9_staysAway_125 rfl rfl ?_
                exact ⟨by clear hQ B hr hsc; grind [mStay], rfl⟩
          · refine s_tableOut (tgt := 177) B dX9_staysAway_14 (by have q0 := lv_neT k14_1 (show (1 : Int32).toInt = 1 from by decide); have q1 := lv_neT k14_2 (show (2 : Int32).toInt = 2 from by decide); have q2 := lv_neT k14_3 (show (3 : Int32).toInt = 3 from by decide); have q3 := lv_neT k14_4 (show (4 : Int32).toInt = 4 from by decide); have q4 := lv_neT k14_5 (show (5 : Int32).toInt = 5 from by decide); omega) rfl ?_
            refine s_iconst B dX9_staysAway_177 ic_0 ?_
            refine s_zret B hQ hr dX9_staysAway_178 rfl rfl ?_
            exact ⟨by clear hQ B hr hsc; grind [mStay], rfl⟩
