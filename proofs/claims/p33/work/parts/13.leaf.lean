abbrev RowsC (g : Nat → ClassId) (h : Nat → Nat) (cl : Nat → Int32) (rn : Nat) : va_W := [(h 0, .inr (1, [.ref (h 1), .int (nI rn)])), (h 1, .inl (g 0, 60, .inl cl))]
abbrev SheetC (g : Nat → ClassId) (h : Nat → Nat) (so ln : Int32) (it : Nat → Int64) : va_W := [(h 0, .inr (3, [.int so, .int ln, .ref (h 1)])), (h 1, .inl (g 2, 40, .inr (.inl it)))]
abbrev ShelfC (h : Nat) (hs nu so : Int32) : va_W := [(h, .inr (4, [.int hs, .int nu, .int so]))]
abbrev ThingC (g : Nat → ClassId) (h : Nat → Nat) (tr : Nat → Int32) (rn : Nat) (kd nn aa pt : Int32) : va_W := [(h 0, .inr (6, [.ref (h 1), .int (nI rn), .int kd, .int nn, .int aa, .int pt])), (h 1, .inl (g 0, 30, .inl tr))]
/-- the place of a cell of the rows, -1 if there is none such -/
def mPlace (rn : Nat) (i w : Int32) : Int32 := if ¬ i < 0 ∧ ¬ nI rn ≤ i ∧ ¬ w < 0 ∧ ¬ 3 ≤ w then i * 3 + w else -1
theorem mPlace_n {rn k w : Nat} (hk : k < rn) (hr : rn ≤ 20) (hw : w < 3) : mPlace rn (nI k) (nI w) = nI (k * 3 + w) := by
  unfold mPlace
  have e3 : (3 : Int32) = nI 3 := rfl
  rw [e3, if_pos ⟨nI_pos (by omega), nI_ge hk (by omega), nI_pos (by omega), nI_ge hw (by decide)⟩, pk_mul, nI_add]
def rmX1_placeOf : Room := { frames := 0, cells := 0, slots := 0, locals := 0 }
theorem hd_X1_placeOf : yX1_placeOf.cls = RX1 ∧ yX1_placeOf.cls ≠ "java/lang/invoke/MethodHandle" ∧ yX1_placeOf.cls ≠ "java/lang/invoke/VarHandle" ∧ (parseMethodDescriptor yX1_placeOf.desc).map (fun d => d.parameters.length) = some 2 := by decide +kernel
set_option maxHeartbeats 4000000 in
set_option maxRecDepth 100000 in
theorem c_X1_placeOf (l : Launch) (D : va_G) (g : Nat → ClassId) (h : Nat → Nat) (cl : Nat → Int32) (rn : Nat) (i w : Int32) : Ci l yX1_placeOf (WW yX1_placeOf cX1_placeOf 3 (some FieldType.int)) rmX1_placeOf D vwCl (TY g) [.ref (h 0), .int i, .int w] (RowsC g h cl rn) (fun r u => r = mPlace rn i w ∧ u = RowsC g h cl rn) := by
  refine ci_in (by decide) (Nat.le_of_ble_eq_true rfl) (a0 := [h 0, h 1]) rfl (fun p e s m args below meth c A Q hQ B hr hsc => ?_)
  refine s_iload_n B dX1_placeOf_0 rfl 1 rfl ?_
  refine s_if_lt (tgt := 29) B dX1_placeOf_1 rfl (fun h1 => ?_) (fun h1 => ?_)
  · refine s_iconst B dX1_placeOf_29 ic_m1 ?_
    refine s_iret B hQ hr dX1_placeOf_30 rfl ?_
    exact ⟨by clear hQ B hr hsc; grind [mPlace], rfl⟩
  · refine s_iload_n B dX1_placeOf_4 rfl 1 rfl ?_
    refine s_aload_n B dX1_placeOf_5 rfl 0 rfl ?_
    refine s_get (T := TX1) B inX1 0 rfl rfl 1 (Nat.le_of_ble_eq_true rfl) fl_X1_15 rfl rfl dX1_placeOf_6 ?_
    refine s_icmp_ge (tgt := 29) B dX1_placeOf_9 rfl (fun h9 => ?_) (fun h9 => ?_)
    · refine s_iconst B dX1_placeOf_29 ic_m1 ?_
      refine s_iret B hQ hr dX1_placeOf_30 rfl ?_
      exact ⟨by clear hQ B hr hsc; grind [mPlace], rfl⟩
    · refine s_iload_n B dX1_placeOf_12 rfl 2 rfl ?_
      refine s_if_lt (tgt := 29) B dX1_placeOf_13 rfl (fun h13 => ?_) (fun h13 => ?_)
      · refine s_iconst B dX1_placeOf_29 ic_m1 ?_
        refine s_iret B hQ hr dX1_placeOf_30 rfl ?_
        exact ⟨by clear hQ B hr hsc; grind [mPlace], rfl⟩
      · refine s_iload_n B dX1_placeOf_16 rfl 2 rfl ?_
        refine s_iconst B dX1_placeOf_17 ic_3 ?_
        refine s_icmp_ge (tgt := 29) B dX1_placeOf_18 rfl (fun h18 => ?_) (fun h18 => ?_)
        · refine s_iconst B dX1_placeOf_29 ic_m1 ?_
          refine s_iret B hQ hr dX1_placeOf_30 rfl ?_
          exact ⟨by clear hQ B hr hsc; grind [mPlace], rfl⟩
        · refine s_iload_n B dX1_placeOf_21 rfl 1 rfl ?_
          refine s_iconst B dX1_placeOf_22 ic_3 ?_
          refine s_imul B dX1_placeOf_23 ?_
          refine s_iload_n B dX1_placeOf_24 rfl 2 rfl ?_
          refine s_iadd B dX1_placeOf_25 ?_
          refine s_goto (tgt := 30) B dX1_placeOf_26 rfl ?_
          refine s_iret B hQ hr dX1_placeOf_30 rfl ?_
          exact ⟨by clear hQ B hr hsc; grind [mPlace], rfl⟩
def rmX1_addRow : Room := { frames := 0, cells := 0, slots := 0, locals := 0 }
theorem hd_X1_addRow : yX1_addRow.cls = RX1 ∧ yX1_addRow.cls ≠ "java/lang/invoke/MethodHandle" ∧ yX1_addRow.cls ≠ "java/lang/invoke/VarHandle" ∧ (parseMethodDescriptor yX1_addRow.desc).map (fun d => d.parameters.length) = some 3 := by decide +kernel
set_option maxHeartbeats 4000000 in
set_option maxRecDepth 100000 in
theorem c_X1_addRow (l : Launch) (D : va_G) (g : Nat → ClassId) (h : Nat → Nat) (cl : Nat → Int32) (rn : Nat) (a0 a1 a2 : Int32) (hrn : rn < 20) : Cv l yX1_addRow (WW yX1_addRow cX1_addRow 4 none) rmX1_addRow D vwCl (TY g) [.ref (h 0), .int a0, .int a1, .int a2] (RowsC g h cl rn) (fun u => u = RowsC g h (upd (upd (upd cl (rn * 3) a0) (rn * 3 + 1) a1) (rn * 3 + 2) a2) (rn + 1)) := by
  refine cv_in (by decide) (Nat.le_of_ble_eq_true rfl) (a0 := [h 0, h 1]) rfl (fun p e s m args below meth c A Q hQ B hr hsc => ?_)
  refine s_aload_n B dX1_addRow_0 rfl 0 rfl ?_
  refine s_get (T := TX1) B inX1 0 rfl rfl 1 (Nat.le_of_ble_eq_true rfl) fl_X1_15 rfl rfl dX1_addRow_1 ?_
  refine s_bipush B dX1_addRow_4 bp_20 ?_
  refine s_icmp_ge (tgt := 59) B dX1_addRow_6 rfl (fun h6 => ?_) (fun h6 => ?_)
  · replace h6 : 20 ≤ rn := (nI_leI (a := 20) (b := rn) (by omega) (by omega)).mp h6
    refine s_vret B hQ hr dX1_addRow_59 rfl ?_
    exfalso; omega
  · replace h6 : ¬ 20 ≤ rn := fun hh => h6 ((nI_leI (a := 20) (b := rn) (by omega) (by omega)).mpr hh)
    refine s_aload_n B dX1_addRow_9 rfl 0 rfl ?_
    refine s_get (T := TX1) B inX1 0 rfl rfl 0 (Nat.le_of_ble_eq_true rfl) fl_X1_11 rfl rfl dX1_addRow_10 ?_
    refine s_aload_n B dX1_addRow_13 rfl 0 rfl ?_
    refine s_get (T := TX1) B inX1 0 rfl rfl 1 (Nat.le_of_ble_eq_true rfl) fl_X1_15 rfl rfl dX1_addRow_14 ?_
    refine s_iconst B dX1_addRow_17 ic_3 ?_
    refine s_imulE B dX1_addRow_18 (pk_mul rn 3) ?_
    refine s_iload_n B dX1_addRow_19 rfl 1 rfl ?_
    refine s_iastN (ws' := [_, _]) B 1 0 rfl rfl rfl dX1_addRow_20 (by omega) (by decide) ?_
    refine s_aload_n B dX1_addRow_21 rfl 0 rfl ?_
    refine s_get (T := TX1) B inX1 0 rfl rfl 0 (Nat.le_of_ble_eq_true rfl) fl_X1_11 rfl rfl dX1_addRow_22 ?_
    refine s_aload_n B dX1_addRow_25 rfl 0 rfl ?_
    refine s_get (T := TX1) B inX1 0 rfl rfl 1 (Nat.le_of_ble_eq_true rfl) fl_X1_15 rfl rfl dX1_addRow_26 ?_
    refine s_iconst B dX1_addRow_29 ic_3 ?_
    refine s_imulE B dX1_addRow_30 (pk_mul rn 3) ?_
    refine s_iconst B dX1_addRow_31 ic_1 ?_
    refine s_iaddE B dX1_addRow_32 (nI_add (rn * 3) 1) ?_
    refine s_iload_n B dX1_addRow_33 rfl 2 rfl ?_
    refine s_iastN (ws' := [_, _]) B 1 0 rfl rfl rfl dX1_addRow_34 (by omega) (by decide) ?_
    refine s_aload_n B dX1_addRow_35 rfl 0 rfl ?_
    refine s_get (T := TX1) B inX1 0 rfl rfl 0 (Nat.le_of_ble_eq_true rfl) fl_X1_11 rfl rfl dX1_addRow_36 ?_
    refine s_aload_n B dX1_addRow_39 rfl 0 rfl ?_
    refine s_get (T := TX1) B inX1 0 rfl rfl 1 (Nat.le_of_ble_eq_true rfl) fl_X1_15 rfl rfl dX1_addRow_40 ?_
    refine s_iconst B dX1_addRow_43 ic_3 ?_
    refine s_imulE B dX1_addRow_44 (pk_mul rn 3) ?_
    refine s_iconst B dX1_addRow_45 ic_2 ?_
    refine s_iaddE B dX1_addRow_46 (nI_add (rn * 3) 2) ?_
    refine s_iload_n B dX1_addRow_47 rfl 3 rfl ?_
    refine s_iastN (ws' := [_, _]) B 1 0 rfl rfl rfl dX1_addRow_48 (by omega) (by decide) ?_
    refine s_aload_n B dX1_addRow_49 rfl 0 rfl ?_
    refine s_dup B dX1_addRow_50 rfl ?_
    refine s_get (T := TX1) B inX1 0 rfl rfl 1 (Nat.le_of_ble_eq_true rfl) fl_X1_15 rfl rfl dX1_addRow_51 ?_
    refine s_iconst B dX1_addRow_54 ic_1 ?_
    refine s_iaddE B dX1_addRow_55 (nI_add rn 1) ?_
    refine s_put (T := TX1) (ws' := [_, _]) B inX1 tyX1_ok nmX1 0 rfl rfl 1 (Nat.le_of_ble_eq_true rfl) fl_X1_15 rfl rfl rfl rfl (Nat.le_of_ble_eq_true rfl) rfl dX1_addRow_56 ?_
    refine s_vret B hQ hr dX1_addRow_59 rfl ?_
    rfl
def rmX1_isRow : Room := { frames := 1, cells := 0, slots := 0, locals := 22 }
theorem hd_X1_isRow : yX1_isRow.cls = RX1 ∧ yX1_isRow.cls ≠ "java/lang/invoke/MethodHandle" ∧ yX1_isRow.cls ≠ "java/lang/invoke/VarHandle" ∧ (parseMethodDescriptor yX1_isRow.desc).map (fun d => d.parameters.length) = some 4 := by decide +kernel
set_option maxHeartbeats 4000000 in
set_option maxRecDepth 100000 in
theorem c_X1_isRow (l : Launch) (D : va_G) (g : Nat → ClassId) (h : Nat → Nat) (cl : Nat → Int32) (rn : Nat) (k : Nat) (a0 a1 a2 : Int32) (hk : k < rn) (hrn : rn ≤ 20) : Ci l yX1_isRow (WW yX1_isRow cX1_isRow 6 (some FieldType.boolean)) rmX1_isRow D vwCl (TY g) [.ref (h 0), .int (nI k), .int a0, .int a1, .int a2] (RowsC g h cl rn) (fun r u => r = (if cl (k * 3) = a0 ∧ cl (k * 3 + 1) = a1 ∧ cl (k * 3 + 2) = a2 then 1 else 0) ∧ u = RowsC g h cl rn) := by
  refine ci_in (by decide) (Nat.le_of_ble_eq_true rfl) (a0 := [h 0, h 1]) rfl (fun p e s m args below meth c A Q hQ B hr hsc => ?_)
  refine s_aload_n B dX1_isRow_0 rfl 0 rfl ?_
  refine s_iload_n B dX1_isRow_1 rfl 1 rfl ?_
  refine s_iconst B dX1_isRow_2 ic_0 ?_
  refine s_callVi B hsc (c_X1_placeOf l D g h cl rn (nI k) 0) (gw_V ml_X1_19 im_yX1_placeOf se_yX1_placeOf ini_RX1 co_yX1_placeOf) hd_X1_placeOf rfl rfl ⟨(Nat.le_of_ble_eq_true rfl), (Nat.le_of_ble_eq_true rfl)⟩ [0, 1] [0, 1, 2, 3, 4] rfl rfl rfl (ci := 1) (q0 := 0) rfl rfl rfl rfl rfl (Nat.le_of_ble_eq_true rfl) dX1_isRow_3 (fun r u hpo => ?_)
  obtain ⟨rfl, rfl⟩ := hpo
  refine s_st (st' := [.int (mPlace rn (nI k) 0)]) rfl ?_
  refine s_ws (ws' := [(h 0, .inr (1, [.ref (h 1), .int (nI rn)])), (h 1, .inl (g 0, 60, .inl cl))]) rfl ?_
  refine s_st (st' := [.int (nI (k * 3))]) (by rw [show (0 : Int32) = nI 0 from rfl, mPlace_n (w := 0) hk hrn (by decide)]; rfl) ?_
  refine s_istore (lv' := [(5, _), (0, _), (1, _), (2, _), (3, _), (4, _)]) B dX1_isRow_6 (Nat.le_of_ble_eq_true rfl) rfl ?_
  refine s_iload B dX1_isRow_8 0 rfl ?_
  refine s_if_lt (tgt := 55) B dX1_isRow_10 rfl (fun h10 => ?_) (fun h10 => ?_)
  · replace h10 : (k * 3) < 0 := (nI_ltI (a := (k * 3)) (b := 0) (by omega) (by omega)).mp h10
    refine s_iconst B dX1_isRow_55 ic_0 ?_
    refine s_zret B hQ hr dX1_isRow_56 rfl rfl ?_
    exact ⟨by clear hQ B hr hsc; grind, rfl⟩
  · replace h10 : ¬ (k * 3) < 0 := fun hh => h10 ((nI_ltI (a := (k * 3)) (b := 0) (by omega) (by omega)).mpr hh)
    refine s_aload_n B dX1_isRow_13 rfl 1 rfl ?_
    refine s_get (T := TX1) B inX1 0 rfl rfl 0 (Nat.le_of_ble_eq_true rfl) fl_X1_11 rfl rfl dX1_isRow_14 ?_
    refine s_iload B dX1_isRow_17 0 rfl ?_
    refine s_ialdN B 1 0 rfl rfl dX1_isRow_19 (by omega) (by decide) ?_
    refine s_iload_n B dX1_isRow_20 rfl 3 rfl ?_
    refine s_icmp_ne (tgt := 55) B dX1_isRow_21 rfl (fun h21 => ?_) (fun h21 => ?_)
    · refine s_iconst B dX1_isRow_55 ic_0 ?_
      refine s_zret B hQ hr dX1_isRow_56 rfl rfl ?_
      exact ⟨by clear hQ B hr hsc; grind, rfl⟩
    · refine s_aload_n B dX1_isRow_24 rfl 1 rfl ?_
      refine s_get (T := TX1) B inX1 0 rfl rfl 0 (Nat.le_of_ble_eq_true rfl) fl_X1_11 rfl rfl dX1_isRow_25 ?_
      refine s_iload B dX1_isRow_28 0 rfl ?_
      refine s_iconst B dX1_isRow_30 ic_1 ?_
      refine s_iaddE B dX1_isRow_31 (nI_add (k * 3) 1) ?_
      refine s_ialdN B 1 0 rfl rfl dX1_isRow_32 (by omega) (by decide) ?_
      refine s_iload_n B dX1_isRow_33 rfl 4 rfl ?_
      refine s_icmp_ne (tgt := 55) B dX1_isRow_34 rfl (fun h34 => ?_) (fun h34 => ?_)
      · refine s_iconst B dX1_isRow_55 ic_0 ?_
        refine s_zret B hQ hr dX1_isRow_56 rfl rfl ?_
        exact ⟨by clear hQ B hr hsc; grind, rfl⟩
      · refine s_aload_n B dX1_isRow_37 rfl 1 rfl ?_
        refine s_get (T := TX1) B inX1 0 rfl rfl 0 (Nat.le_of_ble_eq_true rfl) fl_X1_11 rfl rfl dX1_isRow_38 ?_
        refine s_iload B dX1_isRow_41 0 rfl ?_
        refine s_iconst B dX1_isRow_43 ic_2 ?_
        refine s_iaddE B dX1_isRow_44 (nI_add (k * 3) 2) ?_
        refine s_ialdN B 1 0 rfl rfl dX1_isRow_45 (by omega) (by decide) ?_
        refine s_iload B dX1_isRow_46 5 rfl ?_
        refine s_icmp_ne (tgt := 55) B dX1_isRow_48 rfl (fun h48 => ?_) (fun h48 => ?_)
        · refine s_iconst B dX1_isRow_55 ic_0 ?_
          refine s_zret B hQ hr dX1_isRow_56 rfl rfl ?_
          exact ⟨by clear hQ B hr hsc; grind, rfl⟩
        · refine s_iconst B dX1_isRow_51 ic_1 ?_
          refine s_goto (tgt := 56) B dX1_isRow_52 rfl ?_
          refine s_zret B hQ hr dX1_isRow_56 rfl rfl ?_
          exact ⟨by clear hQ B hr hsc; grind, rfl⟩
def rmX3_hasItem : Room := { frames := 0, cells := 0, slots := 0, locals := 0 }
theorem hd_X3_hasItem : yX3_hasItem.cls = RX3 ∧ yX3_hasItem.cls ≠ "java/lang/invoke/MethodHandle" ∧ yX3_hasItem.cls ≠ "java/lang/invoke/VarHandle" ∧ (parseMethodDescriptor yX3_hasItem.desc).map (fun d => d.parameters.length) = some 1 := by decide +kernel
set_option maxHeartbeats 4000000 in
set_option maxRecDepth 100000 in
theorem c_X3_hasItem (l : Launch) (D : va_G) (g : Nat → ClassId) (h : Nat → Nat) (so ln : Int32) (it : Nat → Int64) (i : Int32) : Ci l yX3_hasItem (WW yX3_hasItem cX3_hasItem 2 (some FieldType.boolean)) rmX3_hasItem D vwCl (TY g) [.ref (h 0), .int i] (SheetC g h so ln it) (fun r u => r = (if ¬ i < 0 ∧ i < ln then 1 else 0) ∧ u = SheetC g h so ln it) := by
  refine ci_in (by decide) (Nat.le_of_ble_eq_true rfl) (a0 := [h 0, h 1]) rfl (fun p e s m args below meth c A Q hQ B hr hsc => ?_)
  refine s_iload_n B dX3_hasItem_0 rfl 1 rfl ?_
  refine s_if_lt (tgt := 16) B dX3_hasItem_1 rfl (fun h1 => ?_) (fun h1 => ?_)
  · refine s_iconst B dX3_hasItem_16 ic_0 ?_
    refine s_zret B hQ hr dX3_hasItem_17 rfl rfl ?_
    exact ⟨by clear hQ B hr hsc; grind, rfl⟩
  · refine s_iload_n B dX3_hasItem_4 rfl 1 rfl ?_
    refine s_aload_n B dX3_hasItem_5 rfl 0 rfl ?_
    refine s_get (T := TX3) B inX3 0 rfl rfl 1 (Nat.le_of_ble_eq_true rfl) fl_X3_15 rfl rfl dX3_hasItem_6 ?_
    refine s_icmp_ge (tgt := 16) B dX3_hasItem_9 rfl (fun h9 => ?_) (fun h9 => ?_)
    · refine s_iconst B dX3_hasItem_16 ic_0 ?_
      refine s_zret B hQ hr dX3_hasItem_17 rfl rfl ?_
      exact ⟨by clear hQ B hr hsc; grind, rfl⟩
    · refine s_iconst B dX3_hasItem_12 ic_1 ?_
      refine s_goto (tgt := 17) B dX3_hasItem_13 rfl ?_
      refine s_zret B hQ hr dX3_hasItem_17 rfl rfl ?_
      exact ⟨by clear hQ B hr hsc; grind, rfl⟩
def rmX3_refusalAs : Room := { frames := 0, cells := 0, slots := 0, locals := 0 }
theorem hd_X3_refusalAs : yX3_refusalAs.cls = RX3 ∧ yX3_refusalAs.cls ≠ "java/lang/invoke/MethodHandle" ∧ yX3_refusalAs.cls ≠ "java/lang/invoke/VarHandle" ∧ (parseMethodDescriptor yX3_refusalAs.desc).map (fun d => d.parameters.length) = some 1 := by decide +kernel
set_option maxHeartbeats 4000000 in
set_option maxRecDepth 100000 in
theorem c_X3_refusalAs (l : Launch) (D : va_G) (g : Nat → ClassId) (h : Nat → Nat) (so ln : Int32) (it : Nat → Int64) (a0 : Int32) : Ci l yX3_refusalAs (WW yX3_refusalAs cX3_refusalAs 2 (some FieldType.int)) rmX3_refusalAs D vwCl (TY g) [.ref (h 0), .int a0] (SheetC g h so ln it) (fun r u => r = (if so = -1 then -11 else if so = a0 then 0 else -13) ∧ u = SheetC g h so ln it) := by
  refine ci_in (by decide) (Nat.le_of_ble_eq_true rfl) (a0 := [h 0, h 1]) rfl (fun p e s m args below meth c A Q hQ B hr hsc => ?_)
  refine s_aload_n B dX3_refusalAs_0 rfl 0 rfl ?_
  refine s_get (T := TX3) B inX3 0 rfl rfl 0 (Nat.le_of_ble_eq_true rfl) fl_X3_9 rfl rfl dX3_refusalAs_1 ?_
  refine s_iconst B dX3_refusalAs_4 ic_m1 ?_
  refine s_icmp_ne (tgt := 11) B dX3_refusalAs_5 rfl (fun h5 => ?_) (fun h5 => ?_)
  · refine s_aload_n B dX3_refusalAs_11 rfl 0 rfl ?_
    refine s_get (T := TX3) B inX3 0 rfl rfl 0 (Nat.le_of_ble_eq_true rfl) fl_X3_9 rfl rfl dX3_refusalAs_12 ?_
    refine s_iload_n B dX3_refusalAs_15 rfl 1 rfl ?_
    refine s_icmp_ne (tgt := 23) B dX3_refusalAs_16 rfl (fun h16 => ?_) (fun h16 => ?_)
    · refine s_bipush B dX3_refusalAs_23 bp_m13 ?_
      refine s_iret B hQ hr dX3_refusalAs_25 rfl ?_
      exact ⟨by clear hQ B hr hsc; grind, rfl⟩
    · refine s_iconst B dX3_refusalAs_19 ic_0 ?_
      refine s_goto (tgt := 25) B dX3_refusalAs_20 rfl ?_
      refine s_iret B hQ hr dX3_refusalAs_25 rfl ?_
      exact ⟨by clear hQ B hr hsc; grind, rfl⟩
  · refine s_bipush B dX3_refusalAs_8 bp_m11 ?_
    refine s_iret B hQ hr dX3_refusalAs_10 rfl ?_
    exact ⟨by clear hQ B hr hsc; grind, rfl⟩
def rmX3_narrowed : Room := { frames := 0, cells := 0, slots := 0, locals := 0 }
theorem hd_X3_narrowed : yX3_narrowed.cls = RX3 ∧ yX3_narrowed.cls ≠ "java/lang/invoke/MethodHandle" ∧ yX3_narrowed.cls ≠ "java/lang/invoke/VarHandle" ∧ (parseMethodDescriptor yX3_narrowed.desc).map (fun d => d.parameters.length) = some 1 := by decide +kernel
set_option maxHeartbeats 4000000 in
set_option maxRecDepth 100000 in
theorem c_X3_narrowed (l : Launch) (D : va_G) (g : Nat → ClassId) (h : Nat → Nat) (so ln : Int32) (it : Nat → Int64) (v : Int32) : Cl l yX3_narrowed (WW yX3_narrowed cX3_narrowed 2 (some FieldType.long)) rmX3_narrowed D vwCl (TY g) [.ref (h 0), .int v] (SheetC g h so ln it) (fun r u => r = (if so = 0 then v.toInt8.toInt32 else if so = 1 then v.toInt16.toInt32 else v).toInt64 ∧ u = SheetC g h so ln it) := by
  refine cl_in (by decide) (Nat.le_of_ble_eq_true rfl) (a0 := [h 0, h 1]) rfl (fun p e s m args below meth c A Q hQ B hr hsc => ?_)
  refine s_aload_n B dX3_narrowed_0 rfl 0 rfl ?_
  refine s_get (T := TX3) B inX3 0 rfl rfl 0 (Nat.le_of_ble_eq_true rfl) fl_X3_9 rfl rfl dX3_narrowed_1 ?_
  by_cases k4_0 : so = 0
  · refine s_lookup (off := 28) (tgt := 32) B dX3_narrowed_4 (by decide) (by rw [k4_0]; rfl) rfl ?_
    refine s_iload_n B dX3_narrowed_32 rfl 1 rfl ?_
    refine s_i2b B dX3_narrowed_33 rfl ?_
    refine s_i2l B dX3_narrowed_34 rfl ?_
    refine s_lret B hQ hr dX3_narrowed_35 rfl ?_
    exact ⟨by simp only [if_pos k4_0], rfl⟩
  · by_cases k4_1 : so = 1
    · refine s_lookup (off := 32) (tgt := 36) B dX3_narrowed_4 (by decide) (by rw [k4_1]; rfl) rfl ?_
      refine s_iload_n B dX3_narrowed_36 rfl 1 rfl ?_
      refine s_i2s B dX3_narrowed_37 rfl ?_
      refine s_i2l B dX3_narrowed_38 rfl ?_
      refine s_lret B hQ hr dX3_narrowed_39 rfl ?_
      exact ⟨by simp only [if_neg k4_0, if_pos k4_1], rfl⟩
    · refine s_lookup (off := 36) (tgt := 40) B dX3_narrowed_4 (by decide) (by show Op.lookupswitch.offset [(0, 28), (1, 32)] 36 _ = _; rw [lv_osw k4_0 (show (0 : Int32).toInt = 0 from by decide), lv_osw k4_1 (show (1 : Int32).toInt = 1 from by decide)]; rfl) rfl ?_
      refine s_iload_n B dX3_narrowed_40 rfl 1 rfl ?_
      refine s_i2l B dX3_narrowed_41 rfl ?_
      refine s_lret B hQ hr dX3_narrowed_42 rfl ?_
      exact ⟨by simp only [if_neg k4_0, if_neg k4_1], rfl⟩
def mSprL (b : Nat → Int64) (k : Nat) : Nat → Int64 := fun c => if c < k then 0 else b c
theorem mSprL_0 (b : Nat → Int64) : mSprL b 0 = b := by funext c; simp [mSprL]
theorem mSprL_t (b : Nat → Int64) {k : Nat} : vp_updL (mSprL b k) k 0 = mSprL b (k + 1) := by
  funext c
  unfold vp_updL mSprL
  by_cases hc : c = k
  · subst hc; simp
  · have e : c < k + 1 ↔ c < k := by omega
    simp [hc, e]
def rmX3_becomeRow : Room := { frames := 0, cells := 0, slots := 0, locals := 0 }
theorem hd_X3_becomeRow : yX3_becomeRow.cls = RX3 ∧ yX3_becomeRow.cls ≠ "java/lang/invoke/MethodHandle" ∧ yX3_becomeRow.cls ≠ "java/lang/invoke/VarHandle" ∧ (parseMethodDescriptor yX3_becomeRow.desc).map (fun d => d.parameters.length) = some 2 := by decide +kernel
set_option maxHeartbeats 4000000 in
set_option maxRecDepth 100000 in
theorem c_X3_becomeRow (l : Launch) (D : va_G) (g : Nat → ClassId) (h : Nat → Nat) (so ln : Int32) (it : Nat → Int64) (s0 n0 : Int32) : Cv l yX3_becomeRow (WW yX3_becomeRow cX3_becomeRow 4 none) rmX3_becomeRow D vwCl (TY g) [.ref (h 0), .int s0, .int n0] (SheetC g h so ln it) (fun u => u = SheetC g h s0 n0 (fun _ => 0)) := by
  refine cv_in (by decide) (Nat.le_of_ble_eq_true rfl) (a0 := [h 0, h 1]) rfl (fun p e s m args below meth c A Q hQ B hr hsc => ?_)
  have L12 : ∀ (jj : Nat) (k : Nat), 40 - k < jj → (k ≤ 40) → Sx p l e rmX3_becomeRow s m args below meth c D vwCl A 4 Q 12 [(0, .ref (h 0)), (1, .int s0), (2, .int n0), (3, .int (nI k))] [] [(h 0, .inr (3, [.int s0, .int n0, .ref (h 1)])), (h 1, .inl (g 2, 40, .inr (.inl (mSprL it k))))] := by
    intro jj
    induction jj with
    | zero => intro k hj; exact absurd hj (Nat.not_lt_zero _)
    | succ jj ih =>
      intro k hj hk
      refine s_iload_n B dX3_becomeRow_12 rfl 3 rfl ?_
      refine s_bipush B dX3_becomeRow_13 bp_40 ?_
      refine s_icmp_ge (tgt := 31) B dX3_becomeRow_15 rfl (fun h15 => ?_) (fun h15 => ?_)
      · replace h15 : 40 ≤ k := (nI_leI (a := 40) (b := k) (by omega) (by omega)).mp h15
        have e9 : k = 40 := by omega
        subst e9
        refine s_extL 1 (ws' := [_, _]) rfl (f' := fun _ => 0) (fun j hj => by simp [mSprL, hj]) rfl ?_
        refine s_vret B hQ hr dX3_becomeRow_31 rfl ?_
        rfl
      · replace h15 : ¬ 40 ≤ k := fun hh => h15 ((nI_leI (a := 40) (b := k) (by omega) (by omega)).mpr hh)
        refine s_aload_n B dX3_becomeRow_18 rfl 0 rfl ?_
        refine s_get (T := TX3) B inX3 0 rfl rfl 2 (Nat.le_of_ble_eq_true rfl) fl_X3_18 rfl rfl dX3_becomeRow_19 ?_
        refine s_iload_n B dX3_becomeRow_22 rfl 3 rfl ?_
        refine s_lconst B dX3_becomeRow_23 lc_0 ?_
        refine s_lastN (ws' := [_, _]) B 1 2 rfl rfl rfl dX3_becomeRow_24 (by omega) (by decide) ?_
        refine s_iinc (lv' := [(3, _), (0, _), (1, _), (2, _)]) (k := 3) B dX3_becomeRow_25 rfl (ii_n _) (Nat.le_of_ble_eq_true rfl) rfl ?_
        refine s_goto (tgt := 12) B dX3_becomeRow_28 rfl ?_
        refine s_lv (lv' := [(0, _), (1, _), (2, _), (3, _)]) [1, 2, 3, 0] rfl ?_
        refine s_ws (ws' := [(h 0, .inr (3, [.int s0, .int n0, .ref (h 1)])), (h 1, .inl (g 2, 40, .inr (.inl (mSprL it (k + 1)))))]) (by rw [mSprL_t]) ?_
        exact ih (k + 1) (by omega) (by omega)
  refine s_aload_n B dX3_becomeRow_0 rfl 0 rfl ?_
  refine s_iload_n B dX3_becomeRow_1 rfl 1 rfl ?_
  refine s_put (T := TX3) (ws' := [_, _]) B inX3 tyX3_ok nmX3 0 rfl rfl 0 (Nat.le_of_ble_eq_true rfl) fl_X3_9 rfl rfl rfl rfl (Nat.le_of_ble_eq_true rfl) rfl dX3_becomeRow_2 ?_
  refine s_aload_n B dX3_becomeRow_5 rfl 0 rfl ?_
  refine s_iload_n B dX3_becomeRow_6 rfl 2 rfl ?_
  refine s_put (T := TX3) (ws' := [_, _]) B inX3 tyX3_ok nmX3 0 rfl rfl 1 (Nat.le_of_ble_eq_true rfl) fl_X3_15 rfl rfl rfl rfl (Nat.le_of_ble_eq_true rfl) rfl dX3_becomeRow_7 ?_
  refine s_iconst B dX3_becomeRow_10 ic_0 ?_
  refine s_istore_n (lv' := [(3, _), (0, _), (1, _), (2, _)]) B dX3_becomeRow_11 rfl (Nat.le_of_ble_eq_true rfl) rfl ?_
  refine s_lv (lv' := [(0, _), (1, _), (2, _), (3, _)]) [1, 2, 3, 0] rfl ?_
  refine s_lve (lv' := [(0, .ref (h 0)), (1, .int s0), (2, .int n0), (3, .int (nI 0))]) (by rfl) ?_
  refine s_ws (ws' := [(h 0, .inr (3, [.int s0, .int n0, .ref (h 1)])), (h 1, .inl (g 2, 40, .inr (.inl (mSprL it 0))))]) (by rw [mSprL_0]; first | done | rfl) ?_
  exact L12 (40 + 1) 0 (by omega) (by omega)
def rmX4_holdChild : Room := { frames := 0, cells := 0, slots := 0, locals := 0 }
theorem hd_X4_holdChild : yX4_holdChild.cls = RX4 ∧ yX4_holdChild.cls ≠ "java/lang/invoke/MethodHandle" ∧ yX4_holdChild.cls ≠ "java/lang/invoke/VarHandle" ∧ (parseMethodDescriptor yX4_holdChild.desc).map (fun d => d.parameters.length) = some 1 := by decide +kernel
set_option maxHeartbeats 4000000 in
set_option maxRecDepth 100000 in
theorem c_X4_holdChild (l : Launch) (D : va_G) (g : Nat → ClassId) (h : Nat) (hs nu so : Int32) (v : Int32) : Cv l yX4_holdChild (WW yX4_holdChild cX4_holdChild 2 none) rmX4_holdChild D vwCl (TY g) [.ref h, .int v] (ShelfC h hs nu so) (fun u => u = ShelfC h 0 v so) := by
  refine cv_in (by decide) (Nat.le_of_ble_eq_true rfl) (a0 := [h]) rfl (fun p e s m args below meth c A Q hQ B hr hsc => ?_)
  refine s_aload_n B dX4_holdChild_0 rfl 0 rfl ?_
  refine s_iconst B dX4_holdChild_1 ic_0 ?_
  refine s_put (T := TX4) (ws' := [_]) B inX4 tyX4_ok nmX4 0 rfl rfl 0 (Nat.le_of_ble_eq_true rfl) fl_X4_9 rfl rfl rfl rfl (Nat.le_of_ble_eq_true rfl) rfl dX4_holdChild_2 ?_
  refine s_aload_n B dX4_holdChild_5 rfl 0 rfl ?_
  refine s_iload_n B dX4_holdChild_6 rfl 1 rfl ?_
  refine s_put (T := TX4) (ws' := [_]) B inX4 tyX4_ok nmX4 0 rfl rfl 1 (Nat.le_of_ble_eq_true rfl) fl_X4_15 rfl rfl rfl rfl (Nat.le_of_ble_eq_true rfl) rfl dX4_holdChild_7 ?_
  refine s_vret B hQ hr dX4_holdChild_10 rfl ?_
  rfl
def rmX4_holdRow : Room := { frames := 0, cells := 0, slots := 0, locals := 0 }
theorem hd_X4_holdRow : yX4_holdRow.cls = RX4 ∧ yX4_holdRow.cls ≠ "java/lang/invoke/MethodHandle" ∧ yX4_holdRow.cls ≠ "java/lang/invoke/VarHandle" ∧ (parseMethodDescriptor yX4_holdRow.desc).map (fun d => d.parameters.length) = some 2 := by decide +kernel
set_option maxHeartbeats 4000000 in
set_option maxRecDepth 100000 in
theorem c_X4_holdRow (l : Launch) (D : va_G) (g : Nat → ClassId) (h : Nat) (hs nu so : Int32) (s0 v : Int32) : Cv l yX4_holdRow (WW yX4_holdRow cX4_holdRow 3 none) rmX4_holdRow D vwCl (TY g) [.ref h, .int s0, .int v] (ShelfC h hs nu so) (fun u => u = ShelfC h 1 v s0) := by
  refine cv_in (by decide) (Nat.le_of_ble_eq_true rfl) (a0 := [h]) rfl (fun p e s m args below meth c A Q hQ B hr hsc => ?_)
  refine s_aload_n B dX4_holdRow_0 rfl 0 rfl ?_
  refine s_iconst B dX4_holdRow_1 ic_1 ?_
  refine s_put (T := TX4) (ws' := [_]) B inX4 tyX4_ok nmX4 0 rfl rfl 0 (Nat.le_of_ble_eq_true rfl) fl_X4_9 rfl rfl rfl rfl (Nat.le_of_ble_eq_true rfl) rfl dX4_holdRow_2 ?_
  refine s_aload_n B dX4_holdRow_5 rfl 0 rfl ?_
  refine s_iload_n B dX4_holdRow_6 rfl 2 rfl ?_
  refine s_put (T := TX4) (ws' := [_]) B inX4 tyX4_ok nmX4 0 rfl rfl 1 (Nat.le_of_ble_eq_true rfl) fl_X4_15 rfl rfl rfl rfl (Nat.le_of_ble_eq_true rfl) rfl dX4_holdRow_7 ?_
  refine s_aload_n B dX4_holdRow_10 rfl 0 rfl ?_
  refine s_iload_n B dX4_holdRow_11 rfl 1 rfl ?_
  refine s_put (T := TX4) (ws' := [_]) B inX4 tyX4_ok nmX4 0 rfl rfl 2 (Nat.le_of_ble_eq_true rfl) fl_X4_18 rfl rfl rfl rfl (Nat.le_of_ble_eq_true rfl) rfl dX4_holdRow_12 ?_
  refine s_vret B hQ hr dX4_holdRow_15 rfl ?_
  rfl
def rmX6_clearTrace : Room := { frames := 0, cells := 0, slots := 0, locals := 0 }
theorem hd_X6_clearTrace : yX6_clearTrace.cls = RX6 ∧ yX6_clearTrace.cls ≠ "java/lang/invoke/MethodHandle" ∧ yX6_clearTrace.cls ≠ "java/lang/invoke/VarHandle" ∧ (parseMethodDescriptor yX6_clearTrace.desc).map (fun d => d.parameters.length) = some 0 := by decide +kernel
set_option maxHeartbeats 4000000 in
set_option maxRecDepth 100000 in
theorem c_X6_clearTrace (l : Launch) (D : va_G) (g : Nat → ClassId) (h : Nat → Nat) (tr : Nat → Int32) (rn : Nat) (kd nn aa pt : Int32) : Cv l yX6_clearTrace (WW yX6_clearTrace cX6_clearTrace 1 none) rmX6_clearTrace D vwCl (TY g) [.ref (h 0)] (ThingC g h tr rn kd nn aa pt) (fun u => u = ThingC g h tr 0 kd nn aa 0) := by
  refine cv_in (by decide) (Nat.le_of_ble_eq_true rfl) (a0 := [h 0, h 1]) rfl (fun p e s m args below meth c A Q hQ B hr hsc => ?_)
  refine s_aload_n B dX6_clearTrace_0 rfl 0 rfl ?_
  refine s_iconst B dX6_clearTrace_1 ic_0 ?_
  refine s_put (T := TX6) (ws' := [_, _]) B inX6 tyX6_ok nmX6 0 rfl rfl 1 (Nat.le_of_ble_eq_true rfl) fl_X6_15 rfl rfl rfl rfl (Nat.le_of_ble_eq_true rfl) rfl dX6_clearTrace_2 ?_
  refine s_aload_n B dX6_clearTrace_5 rfl 0 rfl ?_
  refine s_iconst B dX6_clearTrace_6 ic_0 ?_
  refine s_put (T := TX6) (ws' := [_, _]) B inX6 tyX6_ok nmX6 0 rfl rfl 5 (Nat.le_of_ble_eq_true rfl) fl_X6_28 rfl rfl (by first | rfl | decide) rfl (Nat.le_of_ble_eq_true rfl) rfl dX6_clearTrace_7 ?_
  refine s_vret B hQ hr dX6_clearTrace_10 rfl ?_
  rfl
def rmX6_shared : Room := { frames := 0, cells := 0, slots := 0, locals := 0 }
theorem hd_X6_shared : yX6_shared.cls = RX6 ∧ yX6_shared.cls ≠ "java/lang/invoke/MethodHandle" ∧ yX6_shared.cls ≠ "java/lang/invoke/VarHandle" ∧ (parseMethodDescriptor yX6_shared.desc).map (fun d => d.parameters.length) = some 1 := by decide +kernel
set_option maxHeartbeats 4000000 in
set_option maxRecDepth 100000 in
theorem c_X6_shared (l : Launch) (D : va_G) (g : Nat → ClassId) (h : Nat → Nat) (tr : Nat → Int32) (rn : Nat) (kd nn aa pt : Int32) (x : Int32) : Ci l yX6_shared (WW yX6_shared cX6_shared 3 (some FieldType.int)) rmX6_shared D vwCl (TY g) [.ref (h 0), .int x] (ThingC g h tr rn kd nn aa pt) (fun r u => r = (if aa - nn = 0 then 0 else x / (aa - nn)) ∧ u = ThingC g h tr rn kd nn aa (if aa - nn = 0 then 1 else pt)) := by
  refine ci_in (by decide) (Nat.le_of_ble_eq_true rfl) (a0 := [h 0, h 1]) rfl (fun p e s m args below meth c A Q hQ B hr hsc => ?_)
  refine s_aload_n B dX6_shared_0 rfl 0 rfl ?_
  refine s_get (T := TX6) B inX6 0 rfl rfl 4 (Nat.le_of_ble_eq_true rfl) fl_X6_25 rfl rfl dX6_shared_1 ?_
  refine s_aload_n B dX6_shared_4 rfl 0 rfl ?_
  refine s_get (T := TX6) B inX6 0 rfl rfl 3 (Nat.le_of_ble_eq_true rfl) fl_X6_22 rfl rfl dX6_shared_5 ?_
  refine s_isub B dX6_shared_8 ?_
  refine s_istore_n (lv' := [(2, _), (0, _), (1, _)]) B dX6_shared_9 rfl (Nat.le_of_ble_eq_true rfl) rfl ?_
  refine s_iload_n B dX6_shared_10 rfl 0 rfl ?_
  refine s_if_ne (tgt := 21) B dX6_shared_11 rfl (fun h11 => ?_) (fun h11 => ?_)
  · refine s_iload_n B dX6_shared_21 rfl 2 rfl ?_
    refine s_iload_n B dX6_shared_22 rfl 0 rfl ?_
    refine s_idiv B dX6_shared_23 h11 ?_
    refine s_iret B hQ hr dX6_shared_24 rfl ?_
    exact ⟨by simp only [if_neg h11], by simp only [if_neg h11]; first | done | rfl⟩
  · refine s_aload_n B dX6_shared_14 rfl 1 rfl ?_
    refine s_iconst B dX6_shared_15 ic_1 ?_
    refine s_put (T := TX6) (ws' := [_, _]) B inX6 tyX6_ok nmX6 0 rfl rfl 5 (Nat.le_of_ble_eq_true rfl) fl_X6_28 rfl rfl (by first | rfl | decide) rfl (Nat.le_of_ble_eq_true rfl) rfl dX6_shared_16 ?_
    refine s_iconst B dX6_shared_19 ic_0 ?_
    refine s_iret B hQ hr dX6_shared_20 rfl ?_
    exact ⟨by simp only [if_pos h11], by simp only [if_pos h11]; first | done | rfl⟩
def rmX8_isKind : Room := { frames := 0, cells := 0, slots := 0, locals := 0 }
theorem hd_X8_isKind : yX8_isKind.cls ≠ "java/lang/invoke/MethodHandle" ∧ yX8_isKind.cls ≠ "java/lang/invoke/VarHandle" ∧ (parseMethodDescriptor yX8_isKind.desc).map (fun d => d.parameters.length) = some 1 := by decide +kernel
set_option maxHeartbeats 4000000 in
set_option maxRecDepth 100000 in
theorem c_X8_isKind (l : Launch) (D : va_G) (g : Nat → ClassId) (v : Int32) : Ci l yX8_isKind (WW yX8_isKind cX8_isKind 1 (some FieldType.boolean)) rmX8_isKind D vwCl (TY g) [.int v] [] (fun r u => r = (if ¬ v < 0 ∧ v < 6 then 1 else 0) ∧ u = []) := by
  refine ci_in (by decide) (Nat.le_of_ble_eq_true rfl) (a0 := []) rfl (fun p e s m args below meth c A Q hQ B hr hsc => ?_)
  refine s_iload_n B dX8_isKind_0 rfl 0 rfl ?_
  refine s_if_lt (tgt := 14) B dX8_isKind_1 rfl (fun h1 => ?_) (fun h1 => ?_)
  · refine s_iconst B dX8_isKind_14 ic_0 ?_
    refine s_zret B hQ hr dX8_isKind_15 rfl rfl ?_
    exact ⟨by clear hQ B hr hsc; grind, rfl⟩
  · refine s_iload_n B dX8_isKind_4 rfl 0 rfl ?_
    refine s_bipush B dX8_isKind_5 bp_6 ?_
    refine s_icmp_ge (tgt := 14) B dX8_isKind_7 rfl (fun h7 => ?_) (fun h7 => ?_)
    · refine s_iconst B dX8_isKind_14 ic_0 ?_
      refine s_zret B hQ hr dX8_isKind_15 rfl rfl ?_
      exact ⟨by clear hQ B hr hsc; grind, rfl⟩
    · refine s_iconst B dX8_isKind_10 ic_1 ?_
      refine s_goto (tgt := 15) B dX8_isKind_11 rfl ?_
      refine s_zret B hQ hr dX8_isKind_15 rfl rfl ?_
      exact ⟨by clear hQ B hr hsc; grind, rfl⟩
def rmX8_isHouse : Room := { frames := 0, cells := 0, slots := 0, locals := 0 }
theorem hd_X8_isHouse : yX8_isHouse.cls ≠ "java/lang/invoke/MethodHandle" ∧ yX8_isHouse.cls ≠ "java/lang/invoke/VarHandle" ∧ (parseMethodDescriptor yX8_isHouse.desc).map (fun d => d.parameters.length) = some 1 := by decide +kernel
set_option maxHeartbeats 4000000 in
set_option maxRecDepth 100000 in
theorem c_X8_isHouse (l : Launch) (D : va_G) (g : Nat → ClassId) (v : Int32) : Ci l yX8_isHouse (WW yX8_isHouse cX8_isHouse 1 (some FieldType.boolean)) rmX8_isHouse D vwCl (TY g) [.int v] [] (fun r u => r = (if ¬ v < 0 ∧ v < 6 then 1 else 0) ∧ u = []) := by
  refine ci_in (by decide) (Nat.le_of_ble_eq_true rfl) (a0 := []) rfl (fun p e s m args below meth c A Q hQ B hr hsc => ?_)
  refine s_iload_n B dX8_isHouse_0 rfl 0 rfl ?_
  refine s_if_lt (tgt := 14) B dX8_isHouse_1 rfl (fun h1 => ?_) (fun h1 => ?_)
  · refine s_iconst B dX8_isHouse_14 ic_0 ?_
    refine s_zret B hQ hr dX8_isHouse_15 rfl rfl ?_
    exact ⟨by clear hQ B hr hsc; grind, rfl⟩
  · refine s_iload_n B dX8_isHouse_4 rfl 0 rfl ?_
    refine s_bipush B dX8_isHouse_5 bp_6 ?_
    refine s_icmp_ge (tgt := 14) B dX8_isHouse_7 rfl (fun h7 => ?_) (fun h7 => ?_)
    · refine s_iconst B dX8_isHouse_14 ic_0 ?_
      refine s_zret B hQ hr dX8_isHouse_15 rfl rfl ?_
      exact ⟨by clear hQ B hr hsc; grind, rfl⟩
    · refine s_iconst B dX8_isHouse_10 ic_1 ?_
      refine s_goto (tgt := 15) B dX8_isHouse_11 rfl ?_
      refine s_zret B hQ hr dX8_isHouse_15 rfl rfl ?_
      exact ⟨by clear hQ B hr hsc; grind, rfl⟩
def rmX8_isDay : Room := { frames := 0, cells := 0, slots := 0, locals := 0 }
theorem hd_X8_isDay : yX8_isDay.cls ≠ "java/lang/invoke/MethodHandle" ∧ yX8_isDay.cls ≠ "java/lang/invoke/VarHandle" ∧ (parseMethodDescriptor yX8_isDay.desc).map (fun d => d.parameters.length) = some 1 := by decide +kernel
set_option maxHeartbeats 4000000 in
set_option maxRecDepth 100000 in
theorem c_X8_isDay (l : Launch) (D : va_G) (g : Nat → ClassId) (v : Int32) : Ci l yX8_isDay (WW yX8_isDay cX8_isDay 1 (some FieldType.boolean)) rmX8_isDay D vwCl (TY g) [.int v] [] (fun r u => r = (if ¬ v < 0 ∧ v < 40 then 1 else 0) ∧ u = []) := by
  refine ci_in (by decide) (Nat.le_of_ble_eq_true rfl) (a0 := []) rfl (fun p e s m args below meth c A Q hQ B hr hsc => ?_)
  refine s_iload_n B dX8_isDay_0 rfl 0 rfl ?_
  refine s_if_lt (tgt := 14) B dX8_isDay_1 rfl (fun h1 => ?_) (fun h1 => ?_)
  · refine s_iconst B dX8_isDay_14 ic_0 ?_
    refine s_zret B hQ hr dX8_isDay_15 rfl rfl ?_
    exact ⟨by clear hQ B hr hsc; grind, rfl⟩
  · refine s_iload_n B dX8_isDay_4 rfl 0 rfl ?_
    refine s_bipush B dX8_isDay_5 bp_40 ?_
    refine s_icmp_ge (tgt := 14) B dX8_isDay_7 rfl (fun h7 => ?_) (fun h7 => ?_)
    · refine s_iconst B dX8_isDay_14 ic_0 ?_
      refine s_zret B hQ hr dX8_isDay_15 rfl rfl ?_
      exact ⟨by clear hQ B hr hsc; grind, rfl⟩
    · refine s_iconst B dX8_isDay_10 ic_1 ?_
      refine s_goto (tgt := 15) B dX8_isDay_11 rfl ?_
      refine s_zret B hQ hr dX8_isDay_15 rfl rfl ?_
      exact ⟨by clear hQ B hr hsc; grind, rfl⟩
def rmX8_isSheet : Room := { frames := 0, cells := 0, slots := 0, locals := 0 }
theorem hd_X8_isSheet : yX8_isSheet.cls ≠ "java/lang/invoke/MethodHandle" ∧ yX8_isSheet.cls ≠ "java/lang/invoke/VarHandle" ∧ (parseMethodDescriptor yX8_isSheet.desc).map (fun d => d.parameters.length) = some 1 := by decide +kernel
set_option maxHeartbeats 4000000 in
set_option maxRecDepth 100000 in
theorem c_X8_isSheet (l : Launch) (D : va_G) (g : Nat → ClassId) (v : Int32) : Ci l yX8_isSheet (WW yX8_isSheet cX8_isSheet 1 (some FieldType.boolean)) rmX8_isSheet D vwCl (TY g) [.int v] [] (fun r u => r = (if ¬ v < 0 ∧ v < 4 then 1 else 0) ∧ u = []) := by
  refine ci_in (by decide) (Nat.le_of_ble_eq_true rfl) (a0 := []) rfl (fun p e s m args below meth c A Q hQ B hr hsc => ?_)
  refine s_iload_n B dX8_isSheet_0 rfl 0 rfl ?_
  refine s_if_lt (tgt := 13) B dX8_isSheet_1 rfl (fun h1 => ?_) (fun h1 => ?_)
  · refine s_iconst B dX8_isSheet_13 ic_0 ?_
    refine s_zret B hQ hr dX8_isSheet_14 rfl rfl ?_
    exact ⟨by clear hQ B hr hsc; grind, rfl⟩
  · refine s_iload_n B dX8_isSheet_4 rfl 0 rfl ?_
    refine s_iconst B dX8_isSheet_5 ic_4 ?_
    refine s_icmp_ge (tgt := 13) B dX8_isSheet_6 rfl (fun h6 => ?_) (fun h6 => ?_)
    · refine s_iconst B dX8_isSheet_13 ic_0 ?_
      refine s_zret B hQ hr dX8_isSheet_14 rfl rfl ?_
      exact ⟨by clear hQ B hr hsc; grind, rfl⟩
    · refine s_iconst B dX8_isSheet_9 ic_1 ?_
      refine s_goto (tgt := 14) B dX8_isSheet_10 rfl ?_
      refine s_zret B hQ hr dX8_isSheet_14 rfl rfl ?_
      exact ⟨by clear hQ B hr hsc; grind, rfl⟩
def rmX8_isShelf : Room := { frames := 0, cells := 0, slots := 0, locals := 0 }
theorem hd_X8_isShelf : yX8_isShelf.cls ≠ "java/lang/invoke/MethodHandle" ∧ yX8_isShelf.cls ≠ "java/lang/invoke/VarHandle" ∧ (parseMethodDescriptor yX8_isShelf.desc).map (fun d => d.parameters.length) = some 1 := by decide +kernel
set_option maxHeartbeats 4000000 in
set_option maxRecDepth 100000 in
theorem c_X8_isShelf (l : Launch) (D : va_G) (g : Nat → ClassId) (v : Int32) : Ci l yX8_isShelf (WW yX8_isShelf cX8_isShelf 1 (some FieldType.boolean)) rmX8_isShelf D vwCl (TY g) [.int v] [] (fun r u => r = (if ¬ v < 0 ∧ v < 4 then 1 else 0) ∧ u = []) := by
  refine ci_in (by decide) (Nat.le_of_ble_eq_true rfl) (a0 := []) rfl (fun p e s m args below meth c A Q hQ B hr hsc => ?_)
  refine s_iload_n B dX8_isShelf_0 rfl 0 rfl ?_
  refine s_if_lt (tgt := 13) B dX8_isShelf_1 rfl (fun h1 => ?_) (fun h1 => ?_)
  · refine s_iconst B dX8_isShelf_13 ic_0 ?_
    refine s_zret B hQ hr dX8_isShelf_14 rfl rfl ?_
    exact ⟨by clear hQ B hr hsc; grind, rfl⟩
  · refine s_iload_n B dX8_isShelf_4 rfl 0 rfl ?_
    refine s_iconst B dX8_isShelf_5 ic_4 ?_
    refine s_icmp_ge (tgt := 13) B dX8_isShelf_6 rfl (fun h6 => ?_) (fun h6 => ?_)
    · refine s_iconst B dX8_isShelf_13 ic_0 ?_
      refine s_zret B hQ hr dX8_isShelf_14 rfl rfl ?_
      exact ⟨by clear hQ B hr hsc; grind, rfl⟩
    · refine s_iconst B dX8_isShelf_9 ic_1 ?_
      refine s_goto (tgt := 14) B dX8_isShelf_10 rfl ?_
      refine s_zret B hQ hr dX8_isShelf_14 rfl rfl ?_
      exact ⟨by clear hQ B hr hsc; grind, rfl⟩
def rmX8_isSort : Room := { frames := 0, cells := 0, slots := 0, locals := 0 }
theorem hd_X8_isSort : yX8_isSort.cls ≠ "java/lang/invoke/MethodHandle" ∧ yX8_isSort.cls ≠ "java/lang/invoke/VarHandle" ∧ (parseMethodDescriptor yX8_isSort.desc).map (fun d => d.parameters.length) = some 1 := by decide +kernel
set_option maxHeartbeats 4000000 in
set_option maxRecDepth 100000 in
theorem c_X8_isSort (l : Launch) (D : va_G) (g : Nat → ClassId) (v : Int32) : Ci l yX8_isSort (WW yX8_isSort cX8_isSort 1 (some FieldType.boolean)) rmX8_isSort D vwCl (TY g) [.int v] [] (fun r u => r = (if ¬ v < 0 ∧ v < 4 then 1 else 0) ∧ u = []) := by
  refine ci_in (by decide) (Nat.le_of_ble_eq_true rfl) (a0 := []) rfl (fun p e s m args below meth c A Q hQ B hr hsc => ?_)
  refine s_iload_n B dX8_isSort_0 rfl 0 rfl ?_
  refine s_if_lt (tgt := 13) B dX8_isSort_1 rfl (fun h1 => ?_) (fun h1 => ?_)
  · refine s_iconst B dX8_isSort_13 ic_0 ?_
    refine s_zret B hQ hr dX8_isSort_14 rfl rfl ?_
    exact ⟨by clear hQ B hr hsc; grind, rfl⟩
  · refine s_iload_n B dX8_isSort_4 rfl 0 rfl ?_
    refine s_iconst B dX8_isSort_5 ic_4 ?_
    refine s_icmp_ge (tgt := 13) B dX8_isSort_6 rfl (fun h6 => ?_) (fun h6 => ?_)
    · refine s_iconst B dX8_isSort_13 ic_0 ?_
      refine s_zret B hQ hr dX8_isSort_14 rfl rfl ?_
      exact ⟨by clear hQ B hr hsc; grind, rfl⟩
    · refine s_iconst B dX8_isSort_9 ic_1 ?_
      refine s_goto (tgt := 14) B dX8_isSort_10 rfl ?_
      refine s_zret B hQ hr dX8_isSort_14 rfl rfl ?_
      exact ⟨by clear hQ B hr hsc; grind, rfl⟩
def rmX8_isA : Room := { frames := 0, cells := 0, slots := 0, locals := 0 }
theorem hd_X8_isA : yX8_isA.cls ≠ "java/lang/invoke/MethodHandle" ∧ yX8_isA.cls ≠ "java/lang/invoke/VarHandle" ∧ (parseMethodDescriptor yX8_isA.desc).map (fun d => d.parameters.length) = some 1 := by decide +kernel
set_option maxHeartbeats 4000000 in
set_option maxRecDepth 100000 in
theorem c_X8_isA (l : Launch) (D : va_G) (g : Nat → ClassId) (v : Int32) : Ci l yX8_isA (WW yX8_isA cX8_isA 1 (some FieldType.boolean)) rmX8_isA D vwCl (TY g) [.int v] [] (fun r u => r = (if ¬ v < 0 ∧ v ≤ 9 then 1 else 0) ∧ u = []) := by
  refine ci_in (by decide) (Nat.le_of_ble_eq_true rfl) (a0 := []) rfl (fun p e s m args below meth c A Q hQ B hr hsc => ?_)
  refine s_iload_n B dX8_isA_0 rfl 0 rfl ?_
  refine s_if_lt (tgt := 14) B dX8_isA_1 rfl (fun h1 => ?_) (fun h1 => ?_)
  · refine s_iconst B dX8_isA_14 ic_0 ?_
    refine s_zret B hQ hr dX8_isA_15 rfl rfl ?_
    exact ⟨by clear hQ B hr hsc; grind, rfl⟩
  · refine s_iload_n B dX8_isA_4 rfl 0 rfl ?_
    refine s_bipush B dX8_isA_5 bp_9 ?_
    refine s_icmp_gt (tgt := 14) B dX8_isA_7 rfl (fun h7 => ?_) (fun h7 => ?_)
    · refine s_iconst B dX8_isA_14 ic_0 ?_
      refine s_zret B hQ hr dX8_isA_15 rfl rfl ?_
      exact ⟨by clear hQ B hr hsc; grind, rfl⟩
    · refine s_iconst B dX8_isA_10 ic_1 ?_
      refine s_goto (tgt := 15) B dX8_isA_11 rfl ?_
      refine s_zret B hQ hr dX8_isA_15 rfl rfl ?_
      exact ⟨by clear hQ B hr hsc; grind, rfl⟩
def rmX8_isTrial : Room := { frames := 0, cells := 0, slots := 0, locals := 0 }
theorem hd_X8_isTrial : yX8_isTrial.cls ≠ "java/lang/invoke/MethodHandle" ∧ yX8_isTrial.cls ≠ "java/lang/invoke/VarHandle" ∧ (parseMethodDescriptor yX8_isTrial.desc).map (fun d => d.parameters.length) = some 1 := by decide +kernel
set_option maxHeartbeats 4000000 in
set_option maxRecDepth 100000 in
theorem c_X8_isTrial (l : Launch) (D : va_G) (g : Nat → ClassId) (v : Int32) : Ci l yX8_isTrial (WW yX8_isTrial cX8_isTrial 1 (some FieldType.boolean)) rmX8_isTrial D vwCl (TY g) [.int v] [] (fun r u => r = (if ¬ v < 0 ∧ v ≤ 20 then 1 else 0) ∧ u = []) := by
  refine ci_in (by decide) (Nat.le_of_ble_eq_true rfl) (a0 := []) rfl (fun p e s m args below meth c A Q hQ B hr hsc => ?_)
  refine s_iload_n B dX8_isTrial_0 rfl 0 rfl ?_
  refine s_if_lt (tgt := 14) B dX8_isTrial_1 rfl (fun h1 => ?_) (fun h1 => ?_)
  · refine s_iconst B dX8_isTrial_14 ic_0 ?_
    refine s_zret B hQ hr dX8_isTrial_15 rfl rfl ?_
    exact ⟨by clear hQ B hr hsc; grind, rfl⟩
  · refine s_iload_n B dX8_isTrial_4 rfl 0 rfl ?_
    refine s_bipush B dX8_isTrial_5 bp_20 ?_
    refine s_icmp_gt (tgt := 14) B dX8_isTrial_7 rfl (fun h7 => ?_) (fun h7 => ?_)
    · refine s_iconst B dX8_isTrial_14 ic_0 ?_
      refine s_zret B hQ hr dX8_isTrial_15 rfl rfl ?_
      exact ⟨by clear hQ B hr hsc; grind, rfl⟩
    · refine s_iconst B dX8_isTrial_10 ic_1 ?_
      refine s_goto (tgt := 15) B dX8_isTrial_11 rfl ?_
      refine s_zret B hQ hr dX8_isTrial_15 rfl rfl ?_
      exact ⟨by clear hQ B hr hsc; grind, rfl⟩
