def rmX9_in : Room := { frames := 0, cells := 0, slots := 0, locals := 0 }
theorem hd_X9_in : yX9_in.cls ≠ "java/lang/invoke/MethodHandle" ∧ yX9_in.cls ≠ "java/lang/invoke/VarHandle" ∧ (parseMethodDescriptor yX9_in.desc).map (fun d => d.parameters.length) = some 3 := by decide +kernel
set_option maxHeartbeats 4000000 in
set_option maxRecDepth 100000 in
theorem c_X9_in (l : Launch) (D : va_G) (g : Nat → ClassId) (v a b : Int32) : Ci l yX9_in (WW yX9_in cX9_in 3 (some FieldType.boolean)) rmX9_in D vwCl (TY g) [.int v, .int a, .int b] [] (fun r u => r = (if ¬ v < a ∧ ¬ b < v then 1 else 0) ∧ u = []) := by
  refine ci_in (by decide) (Nat.le_of_ble_eq_true rfl) (a0 := []) rfl (fun p e s m args below meth c A Q hQ B hr hsc => ?_)
  refine s_iload_n B dX9_in_0 rfl 0 rfl ?_
  refine s_iload_n B dX9_in_1 rfl 1 rfl ?_
  refine s_icmp_lt (tgt := 14) B dX9_in_2 rfl (fun h2 => ?_) (fun h2 => ?_)
  · refine s_iconst B dX9_in_14 ic_0 ?_
    refine s_zret B hQ hr dX9_in_15 rfl rfl ?_
    exact ⟨by clear hQ B hr hsc; grind, rfl⟩
  · refine s_iload_n B dX9_in_5 rfl 0 rfl ?_
    refine s_iload_n B dX9_in_6 rfl 2 rfl ?_
    refine s_icmp_gt (tgt := 14) B dX9_in_7 rfl (fun h7 => ?_) (fun h7 => ?_)
    · refine s_iconst B dX9_in_14 ic_0 ?_
      refine s_zret B hQ hr dX9_in_15 rfl rfl ?_
      exact ⟨by clear hQ B hr hsc; grind, rfl⟩
    · refine s_iconst B dX9_in_10 ic_1 ?_
      refine s_goto (tgt := 15) B dX9_in_11 rfl ?_
      refine s_zret B hQ hr dX9_in_15 rfl rfl ?_
      exact ⟨by clear hQ B hr hsc; grind, rfl⟩
def rmX9_has : Room := { frames := 0, cells := 0, slots := 0, locals := 0 }
theorem hd_X9_has : yX9_has.cls ≠ "java/lang/invoke/MethodHandle" ∧ yX9_has.cls ≠ "java/lang/invoke/VarHandle" ∧ (parseMethodDescriptor yX9_has.desc).map (fun d => d.parameters.length) = some 2 := by decide +kernel
set_option maxHeartbeats 4000000 in
set_option maxRecDepth 100000 in
theorem c_X9_has (l : Launch) (D : va_G) (g : Nat → ClassId) (v a : Int32) : Ci l yX9_has (WW yX9_has cX9_has 2 (some FieldType.boolean)) rmX9_has D vwCl (TY g) [.int v, .int a] [] (fun r u => r = (if ¬ v &&& a = 0 then 1 else 0) ∧ u = []) := by
  refine ci_in (by decide) (Nat.le_of_ble_eq_true rfl) (a0 := []) rfl (fun p e s m args below meth c A Q hQ B hr hsc => ?_)
  refine s_iload_n B dX9_has_0 rfl 0 rfl ?_
  refine s_iload_n B dX9_has_1 rfl 1 rfl ?_
  refine s_iand B dX9_has_2 ?_
  refine s_if_eq (tgt := 10) B dX9_has_3 rfl (fun h3 => ?_) (fun h3 => ?_)
  · refine s_iconst B dX9_has_10 ic_0 ?_
    refine s_zret B hQ hr dX9_has_11 rfl rfl ?_
    exact ⟨by clear hQ B hr hsc; grind, rfl⟩
  · refine s_iconst B dX9_has_6 ic_1 ?_
    refine s_goto (tgt := 11) B dX9_has_7 rfl ?_
    refine s_zret B hQ hr dX9_has_11 rfl rfl ?_
    exact ⟨by clear hQ B hr hsc; grind, rfl⟩
def rmX9_isDay : Room := { frames := 1, cells := 0, slots := 0, locals := 22 }
theorem hd_X9_isDay : yX9_isDay.cls ≠ "java/lang/invoke/MethodHandle" ∧ yX9_isDay.cls ≠ "java/lang/invoke/VarHandle" ∧ (parseMethodDescriptor yX9_isDay.desc).map (fun d => d.parameters.length) = some 1 := by decide +kernel
set_option maxHeartbeats 4000000 in
set_option maxRecDepth 100000 in
theorem c_X9_isDay (l : Launch) (D : va_G) (g : Nat → ClassId) (v : Int32) : Ci l yX9_isDay (WW yX9_isDay cX9_isDay 1 (some FieldType.boolean)) rmX9_isDay D vwCl (TY g) [.int v] [] (fun r u => r = (if ¬ v < 0 ∧ ¬ 39 < v then 1 else 0) ∧ u = []) := by
  refine ci_in (by decide) (Nat.le_of_ble_eq_true rfl) (a0 := []) rfl (fun p e s m args below meth c A Q hQ B hr hsc => ?_)
  refine s_iload_n B dX9_isDay_0 rfl 0 rfl ?_
  refine s_iconst B dX9_isDay_1 ic_0 ?_
  refine s_bipush B dX9_isDay_2 bp_39 ?_
  refine s_callSi B hsc (c_X9_in l D g v 0 39) (gw_S ml_X9_87 sm_yX9_in ini_RX9 co_yX9_in) hd_X9_in rfl rfl ⟨(Nat.le_of_ble_eq_true rfl), (Nat.le_of_ble_eq_true rfl)⟩ [] [0, 1, 2, 3, 4] rfl rfl rfl rfl rfl (Nat.le_of_ble_eq_true rfl) dX9_isDay_4 (fun r u hpo => ?_)
  obtain ⟨rfl, rfl⟩ := hpo
  refine s_st (st' := [.int (if ¬ v < 0 ∧ ¬ 39 < v then 1 else 0)]) rfl ?_
  refine s_ws (ws' := []) rfl ?_
  refine s_zret B hQ hr dX9_isDay_7 rfl (z_if _) ?_
  exact ⟨by clear hQ B hr hsc; grind, rfl⟩
def rmX9_isShelf : Room := { frames := 1, cells := 0, slots := 0, locals := 22 }
theorem hd_X9_isShelf : yX9_isShelf.cls ≠ "java/lang/invoke/MethodHandle" ∧ yX9_isShelf.cls ≠ "java/lang/invoke/VarHandle" ∧ (parseMethodDescriptor yX9_isShelf.desc).map (fun d => d.parameters.length) = some 1 := by decide +kernel
set_option maxHeartbeats 4000000 in
set_option maxRecDepth 100000 in
theorem c_X9_isShelf (l : Launch) (D : va_G) (g : Nat → ClassId) (v : Int32) : Ci l yX9_isShelf (WW yX9_isShelf cX9_isShelf 1 (some FieldType.boolean)) rmX9_isShelf D vwCl (TY g) [.int v] [] (fun r u => r = (if ¬ v < 0 ∧ ¬ 3 < v then 1 else 0) ∧ u = []) := by
  refine ci_in (by decide) (Nat.le_of_ble_eq_true rfl) (a0 := []) rfl (fun p e s m args below meth c A Q hQ B hr hsc => ?_)
  refine s_iload_n B dX9_isShelf_0 rfl 0 rfl ?_
  refine s_iconst B dX9_isShelf_1 ic_0 ?_
  refine s_iconst B dX9_isShelf_2 ic_3 ?_
  refine s_callSi B hsc (c_X9_in l D g v 0 3) (gw_S ml_X9_87 sm_yX9_in ini_RX9 co_yX9_in) hd_X9_in rfl rfl ⟨(Nat.le_of_ble_eq_true rfl), (Nat.le_of_ble_eq_true rfl)⟩ [] [0, 1, 2, 3, 4] rfl rfl rfl rfl rfl (Nat.le_of_ble_eq_true rfl) dX9_isShelf_3 (fun r u hpo => ?_)
  obtain ⟨rfl, rfl⟩ := hpo
  refine s_st (st' := [.int (if ¬ v < 0 ∧ ¬ 3 < v then 1 else 0)]) rfl ?_
  refine s_ws (ws' := []) rfl ?_
  refine s_zret B hQ hr dX9_isShelf_6 rfl (z_if _) ?_
  exact ⟨by clear hQ B hr hsc; grind, rfl⟩
def rmX9_isLetter : Room := { frames := 1, cells := 0, slots := 0, locals := 22 }
theorem hd_X9_isLetter : yX9_isLetter.cls ≠ "java/lang/invoke/MethodHandle" ∧ yX9_isLetter.cls ≠ "java/lang/invoke/VarHandle" ∧ (parseMethodDescriptor yX9_isLetter.desc).map (fun d => d.parameters.length) = some 1 := by decide +kernel
set_option maxHeartbeats 4000000 in
set_option maxRecDepth 100000 in
theorem c_X9_isLetter (l : Launch) (D : va_G) (g : Nat → ClassId) (v : Int32) : Ci l yX9_isLetter (WW yX9_isLetter cX9_isLetter 1 (some FieldType.boolean)) rmX9_isLetter D vwCl (TY g) [.int v] [] (fun r u => r = (if ¬ v < 97 ∧ ¬ 122 < v then 1 else 0) ∧ u = []) := by
  refine ci_in (by decide) (Nat.le_of_ble_eq_true rfl) (a0 := []) rfl (fun p e s m args below meth c A Q hQ B hr hsc => ?_)
  refine s_iload_n B dX9_isLetter_0 rfl 0 rfl ?_
  refine s_bipush B dX9_isLetter_1 bp_97 ?_
  refine s_bipush B dX9_isLetter_3 bp_122 ?_
  refine s_callSi B hsc (c_X9_in l D g v 97 122) (gw_S ml_X9_87 sm_yX9_in ini_RX9 co_yX9_in) hd_X9_in rfl rfl ⟨(Nat.le_of_ble_eq_true rfl), (Nat.le_of_ble_eq_true rfl)⟩ [] [0, 1, 2, 3, 4] rfl rfl rfl rfl rfl (Nat.le_of_ble_eq_true rfl) dX9_isLetter_5 (fun r u hpo => ?_)
  obtain ⟨rfl, rfl⟩ := hpo
  refine s_st (st' := [.int (if ¬ v < 97 ∧ ¬ 122 < v then 1 else 0)]) rfl ?_
  refine s_ws (ws' := []) rfl ?_
  refine s_zret B hQ hr dX9_isLetter_8 rfl (z_if _) ?_
  exact ⟨by clear hQ B hr hsc; grind, rfl⟩
def rmX9_isDigit : Room := { frames := 1, cells := 0, slots := 0, locals := 22 }
theorem hd_X9_isDigit : yX9_isDigit.cls ≠ "java/lang/invoke/MethodHandle" ∧ yX9_isDigit.cls ≠ "java/lang/invoke/VarHandle" ∧ (parseMethodDescriptor yX9_isDigit.desc).map (fun d => d.parameters.length) = some 1 := by decide +kernel
set_option maxHeartbeats 4000000 in
set_option maxRecDepth 100000 in
theorem c_X9_isDigit (l : Launch) (D : va_G) (g : Nat → ClassId) (v : Int32) : Ci l yX9_isDigit (WW yX9_isDigit cX9_isDigit 1 (some FieldType.boolean)) rmX9_isDigit D vwCl (TY g) [.int v] [] (fun r u => r = (if ¬ v < 48 ∧ ¬ 57 < v then 1 else 0) ∧ u = []) := by
  refine ci_in (by decide) (Nat.le_of_ble_eq_true rfl) (a0 := []) rfl (fun p e s m args below meth c A Q hQ B hr hsc => ?_)
  refine s_iload_n B dX9_isDigit_0 rfl 0 rfl ?_
  refine s_bipush B dX9_isDigit_1 bp_48 ?_
  refine s_bipush B dX9_isDigit_3 bp_57 ?_
  refine s_callSi B hsc (c_X9_in l D g v 48 57) (gw_S ml_X9_87 sm_yX9_in ini_RX9 co_yX9_in) hd_X9_in rfl rfl ⟨(Nat.le_of_ble_eq_true rfl), (Nat.le_of_ble_eq_true rfl)⟩ [] [0, 1, 2, 3, 4] rfl rfl rfl rfl rfl (Nat.le_of_ble_eq_true rfl) dX9_isDigit_5 (fun r u hpo => ?_)
  obtain ⟨rfl, rfl⟩ := hpo
  refine s_st (st' := [.int (if ¬ v < 48 ∧ ¬ 57 < v then 1 else 0)]) rfl ?_
  refine s_ws (ws' := []) rfl ?_
  refine s_zret B hQ hr dX9_isDigit_8 rfl (z_if _) ?_
  exact ⟨by clear hQ B hr hsc; grind, rfl⟩
def rmX9_isLike : Room := { frames := 1, cells := 0, slots := 0, locals := 22 }
theorem hd_X9_isLike : yX9_isLike.cls ≠ "java/lang/invoke/MethodHandle" ∧ yX9_isLike.cls ≠ "java/lang/invoke/VarHandle" ∧ (parseMethodDescriptor yX9_isLike.desc).map (fun d => d.parameters.length) = some 2 := by decide +kernel
set_option maxHeartbeats 4000000 in
set_option maxRecDepth 100000 in
theorem c_X9_isLike (l : Launch) (D : va_G) (g : Nat → ClassId) (v a : Int32) : Ci l yX9_isLike (WW yX9_isLike cX9_isLike 2 (some FieldType.boolean)) rmX9_isLike D vwCl (TY g) [.int v, .int a] [] (fun r u => r = (if (¬ v < 0 ∧ ¬ 5 < v) ∧ (¬ a < 0 ∧ ¬ 9 < a) then 1 else 0) ∧ u = []) := by
  refine ci_in (by decide) (Nat.le_of_ble_eq_true rfl) (a0 := []) rfl (fun p e s m args below meth c A Q hQ B hr hsc => ?_)
  refine s_iload_n B dX9_isLike_0 rfl 0 rfl ?_
  refine s_iconst B dX9_isLike_1 ic_0 ?_
  refine s_iconst B dX9_isLike_2 ic_5 ?_
  refine s_callSi B hsc (c_X9_in l D g v 0 5) (gw_S ml_X9_87 sm_yX9_in ini_RX9 co_yX9_in) hd_X9_in rfl rfl ⟨(Nat.le_of_ble_eq_true rfl), (Nat.le_of_ble_eq_true rfl)⟩ [] [0, 1, 2, 3, 4] rfl rfl rfl rfl rfl (Nat.le_of_ble_eq_true rfl) dX9_isLike_3 (fun r u hpo => ?_)
  obtain ⟨rfl, rfl⟩ := hpo
  refine s_st (st' := [.int (if ¬ v < 0 ∧ ¬ 5 < v then 1 else 0)]) rfl ?_
  refine s_ws (ws' := []) rfl ?_
  refine s_bif_eq (tgt := 23) B dX9_isLike_6 rfl (fun h6 => ?_) (fun h6 => ?_)
  · refine s_iconst B dX9_isLike_23 ic_0 ?_
    refine s_zret B hQ hr dX9_isLike_24 rfl rfl ?_
    exact ⟨by clear hQ B hr hsc; grind, rfl⟩
  · refine s_iload_n B dX9_isLike_9 rfl 1 rfl ?_
    refine s_iconst B dX9_isLike_10 ic_0 ?_
    refine s_bipush B dX9_isLike_11 bp_9 ?_
    refine s_callSi B hsc (c_X9_in l D g a 0 9) (gw_S ml_X9_87 sm_yX9_in ini_RX9 co_yX9_in) hd_X9_in rfl rfl ⟨(Nat.le_of_ble_eq_true rfl), (Nat.le_of_ble_eq_true rfl)⟩ [] [0, 1, 2, 3, 4] rfl rfl rfl rfl rfl (Nat.le_of_ble_eq_true rfl) dX9_isLike_13 (fun r u hpo => ?_)
    obtain ⟨rfl, rfl⟩ := hpo
    refine s_st (st' := [.int (if ¬ a < 0 ∧ ¬ 9 < a then 1 else 0)]) rfl ?_
    refine s_ws (ws' := []) rfl ?_
    refine s_bif_eq (tgt := 23) B dX9_isLike_16 rfl (fun h16 => ?_) (fun h16 => ?_)
    · refine s_iconst B dX9_isLike_23 ic_0 ?_
      refine s_zret B hQ hr dX9_isLike_24 rfl rfl ?_
      exact ⟨by clear hQ B hr hsc; grind, rfl⟩
    · refine s_iconst B dX9_isLike_19 ic_1 ?_
      refine s_goto (tgt := 24) B dX9_isLike_20 rfl ?_
      refine s_zret B hQ hr dX9_isLike_24 rfl rfl ?_
      exact ⟨by clear hQ B hr hsc; grind, rfl⟩
def rmX9_isUnder : Room := { frames := 0, cells := 0, slots := 0, locals := 0 }
theorem hd_X9_isUnder : yX9_isUnder.cls ≠ "java/lang/invoke/MethodHandle" ∧ yX9_isUnder.cls ≠ "java/lang/invoke/VarHandle" ∧ (parseMethodDescriptor yX9_isUnder.desc).map (fun d => d.parameters.length) = some 2 := by decide +kernel
set_option maxHeartbeats 4000000 in
set_option maxRecDepth 100000 in
theorem c_X9_isUnder (l : Launch) (D : va_G) (g : Nat → ClassId) (v a : Int32) : Ci l yX9_isUnder (WW yX9_isUnder cX9_isUnder 2 (some FieldType.boolean)) rmX9_isUnder D vwCl (TY g) [.int v, .int a] [] (fun r u => r = (if a = 0 ∨ a = v ∨ (a = 1 ∧ v = 4) ∨ (a = 2 ∧ v = 5) then 1 else 0) ∧ u = []) := by
  refine ci_in (by decide) (Nat.le_of_ble_eq_true rfl) (a0 := []) rfl (fun p e s m args below meth c A Q hQ B hr hsc => ?_)
  have M19 : (¬ a = 0) → (¬ a = v) → (((¬ a = 1)) ∨ ((a = 1) ∧ (¬ v = 4))) → Sx p l e rmX9_isUnder s m args below meth c D vwCl A 2 Q 19 [(0, .int v), (1, .int a)] [] [] := by
    intro hm19_0 hm19_1 hm19_2
    refine s_iload_n B dX9_isUnder_19 rfl 1 rfl ?_
    refine s_iconst B dX9_isUnder_20 ic_2 ?_
    refine s_icmp_ne (tgt := 33) B dX9_isUnder_21 rfl (fun h21 => ?_) (fun h21 => ?_)
    · refine s_iconst B dX9_isUnder_33 ic_0 ?_
      refine s_zret B hQ hr dX9_isUnder_34 rfl rfl ?_
      exact ⟨by clear hQ B hr hsc; grind, rfl⟩
    · refine s_iload_n B dX9_isUnder_24 rfl 0 rfl ?_
      refine s_iconst B dX9_isUnder_25 ic_5 ?_
      refine s_icmp_ne (tgt := 33) B dX9_isUnder_26 rfl (fun h26 => ?_) (fun h26 => ?_)
      · refine s_iconst B dX9_isUnder_33 ic_0 ?_
        refine s_zret B hQ hr dX9_isUnder_34 rfl rfl ?_
        exact ⟨by clear hQ B hr hsc; grind, rfl⟩
      · refine s_iconst B dX9_isUnder_29 ic_1 ?_
        refine s_goto (tgt := 34) B dX9_isUnder_30 rfl ?_
        refine s_zret B hQ hr dX9_isUnder_34 rfl rfl ?_
        exact ⟨by clear hQ B hr hsc; grind, rfl⟩
  refine s_iload_n B dX9_isUnder_0 rfl 1 rfl ?_
  refine s_if_eq (tgt := 29) B dX9_isUnder_1 rfl (fun h1 => ?_) (fun h1 => ?_)
  · refine s_iconst B dX9_isUnder_29 ic_1 ?_
    refine s_goto (tgt := 34) B dX9_isUnder_30 rfl ?_
    refine s_zret B hQ hr dX9_isUnder_34 rfl rfl ?_
    exact ⟨by clear hQ B hr hsc; grind, rfl⟩
  · refine s_iload_n B dX9_isUnder_4 rfl 1 rfl ?_
    refine s_iload_n B dX9_isUnder_5 rfl 0 rfl ?_
    refine s_icmp_eq (tgt := 29) B dX9_isUnder_6 rfl (fun h6 => ?_) (fun h6 => ?_)
    · refine s_iconst B dX9_isUnder_29 ic_1 ?_
      refine s_goto (tgt := 34) B dX9_isUnder_30 rfl ?_
      refine s_zret B hQ hr dX9_isUnder_34 rfl rfl ?_
      exact ⟨by clear hQ B hr hsc; grind, rfl⟩
    · refine s_iload_n B dX9_isUnder_9 rfl 1 rfl ?_
      refine s_iconst B dX9_isUnder_10 ic_1 ?_
      refine s_icmp_ne (tgt := 19) B dX9_isUnder_11 rfl (fun h11 => ?_) (fun h11 => ?_)
      · refine s_lv (lv' := [(0, _), (1, _)]) [0, 1] rfl ?_
        exact M19 h1 h6 (by clear hQ B hr hsc; grind)
      · refine s_iload_n B dX9_isUnder_14 rfl 0 rfl ?_
        refine s_iconst B dX9_isUnder_15 ic_4 ?_
        refine s_icmp_eq (tgt := 29) B dX9_isUnder_16 rfl (fun h16 => ?_) (fun h16 => ?_)
        · refine s_iconst B dX9_isUnder_29 ic_1 ?_
          refine s_goto (tgt := 34) B dX9_isUnder_30 rfl ?_
          refine s_zret B hQ hr dX9_isUnder_34 rfl rfl ?_
          exact ⟨by clear hQ B hr hsc; grind, rfl⟩
        · refine s_lv (lv' := [(0, _), (1, _)]) [0, 1] rfl ?_
          exact M19 h1 h6 (by clear hQ B hr hsc; grind)
abbrev RefO (b : Nat → Nat) (I : Nat → Int32) (W : Int64) : Nat × va_E := (b 0, .inr (9, [.int (I 0), .ref (b 1), .ref (b 2), .int (I 3), .ref (b 3), .ref (b 4), .ref (b 5), .ref (b 6), .ref (b 7), .ref (b 8), .int (I 10), .ref (b 9), .int (I 12), .int (I 13), .int (I 14), .int (I 15), .long W, .int (I 17), .int (I 18), .int (I 19), .int (I 20), .ref (b 10), .ref (b 11), .ref (b 12), .ref (b 13), .ref (b 14), .ref (b 15), .int (I 27), .int (I 28), .ref (b 16), .ref (b 17), .ref (b 18), .ref (b 19), .ref (b 20), .ref (b 21), .int (I 35), .int (I 36), .int (I 37), .ref (b 22), .int (I 39), .int (I 40), .int (I 41), .ref (b 23), .int (I 43), .ref (b 24)]))
