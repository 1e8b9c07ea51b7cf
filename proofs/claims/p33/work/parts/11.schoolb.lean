def mSumI (f : Nat → Int32) : Nat → Int32
  | 0 => 0
  | k + 1 => mSumI f k + f k
/-- days in a row without a cross behind the first k days, and the most of them -/
def mRun (x : Nat → Bool) : Nat → Int32
  | 0 => 0
  | k + 1 => if x k then 0 else mRun x k + 1
def mMost (x : Nat → Bool) : Nat → Int32
  | 0 => 0
  | k + 1 => mMax (mMost x k) (mRun x (k + 1))
/-- the first of the first k for which f holds; d: none -/
def mFirst (f : Nat → Bool) (d : Int32) : Nat → Int32
  | 0 => d
  | k + 1 => if (List.range k).any f then mFirst f d k else if f k then nI k else d
def mAll (ok : Nat → Bool) : Nat → Bool
  | 0 => true
  | k + 1 => mAll ok k && ok k
theorem mAll_no {ok : Nat → Bool} {k : Nat} (h : ok k = false) : ∀ n, k < n → mAll ok n = false
  | 0, hn => absurd hn (Nat.not_lt_zero k)
  | n + 1, hn => by
    unfold mAll
    by_cases e : k = n
    · subst e; rw [h, Bool.and_false]
    · rw [mAll_no h n (by omega), Bool.false_and]
/-- one day of the book against a kind -/
def mDayFits (cr ev : Nat → Int32) (c : Nat) (far lost kd a : Int32) (d : Nat) : Bool :=
  !(decide (mBit (cr d) c = mAway kd a far (nI d) (ev d) false false (mRun (fun d => mBit (cr d) c) d) lost) && (mBit (cr d) c || !(decide (kd = 2) || decide (kd = 5))))
def mOfKind (cr ev : Nat → Int32) (c : Nat) (far lost kd a : Int32) (td : Nat) : Bool := mAll (mDayFits cr ev c far lost kd a) td
def mKin (f : Nat → Nat → Bool) (k : Nat) (acc : Int32) : Nat → Int32
  | 0 => acc
  | j + 1 => if f k j then mKin f k acc j ||| ((1 : Int32) <<< (nI k &&& 31)) else mKin f k acc j
def mKinds (f : Nat → Nat → Bool) : Nat → Int32
  | 0 => 0
  | k + 1 => mKin f k (mKinds f k) 10
def mPick (t : Int32) (n : Nat) : Nat → Int32 → Int32
  | 0, _ => -3
  | j + 1, left => if mBit t (n - (j + 1)) then (if left = 0 then nI (n - (j + 1)) else mPick t n j (left + (-1))) else mPick t n j left

/-- Integer.bitCount, as its code has it -/
def mPop (x : Int32) : Int32 := (((((((x - ((mUshr x 1) &&& 1431655765)) &&& 858993459) + ((mUshr (x - ((mUshr x 1) &&& 1431655765)) 2) &&& 858993459)) + (mUshr (((x - ((mUshr x 1) &&& 1431655765)) &&& 858993459) + ((mUshr (x - ((mUshr x 1) &&& 1431655765)) 2) &&& 858993459)) 4)) &&& 252645135) + (mUshr (((((x - ((mUshr x 1) &&& 1431655765)) &&& 858993459) + ((mUshr (x - ((mUshr x 1) &&& 1431655765)) 2) &&& 858993459)) + (mUshr (((x - ((mUshr x 1) &&& 1431655765)) &&& 858993459) + ((mUshr (x - ((mUshr x 1) &&& 1431655765)) 2) &&& 858993459)) 4)) &&& 252645135) 8)) + (mUshr ((((((x - ((mUshr x 1) &&& 1431655765)) &&& 858993459) + ((mUshr (x - ((mUshr x 1) &&& 1431655765)) 2) &&& 858993459)) + (mUshr (((x - ((mUshr x 1) &&& 1431655765)) &&& 858993459) + ((mUshr (x - ((mUshr x 1) &&& 1431655765)) 2) &&& 858993459)) 4)) &&& 252645135) + (mUshr (((((x - ((mUshr x 1) &&& 1431655765)) &&& 858993459) + ((mUshr (x - ((mUshr x 1) &&& 1431655765)) 2) &&& 858993459)) + (mUshr (((x - ((mUshr x 1) &&& 1431655765)) &&& 858993459) + ((mUshr (x - ((mUshr x 1) &&& 1431655765)) 2) &&& 858993459)) 4)) &&& 252645135) 8)) 16)) &&& 63
def rmJ6_bitCount_0f7a4 : Room := { frames := 0, cells := 0, slots := 0, locals := 0 }
theorem hd_J6_bitCount_0f7a4 : yJ6_bitCount_0f7a4.cls ≠ "java/lang/invoke/MethodHandle" ∧ yJ6_bitCount_0f7a4.cls ≠ "java/lang/invoke/VarHandle" ∧ (parseMethodDescriptor yJ6_bitCount_0f7a4.desc).map (fun d => d.parameters.length) = some 1 := by decide +kernel
set_option maxHeartbeats 4000000 in
set_option maxRecDepth 100000 in
theorem c_J6_bitCount_0f7a4 (l : Launch) (D : va_G) (g : Nat → ClassId) (x : Int32) : Ci l yJ6_bitCount_0f7a4 (WW yJ6_bitCount_0f7a4 cJ6_bitCount_0f7a4 1 (some FieldType.int)) rmJ6_bitCount_0f7a4 D vwCl (TY g) [.int x] [] (fun r u => r = mPop x ∧ u = []) := by
  refine ci_in (by decide) (Nat.le_of_ble_eq_true rfl) (a0 := []) rfl (fun p e s m args below meth c A Q hQ B hr hsc => ?_)
  refine s_iload_n B dJ6_bitCount_0f7a4_0 rfl 0 rfl ?_
  refine s_iload_n B dJ6_bitCount_0f7a4_1 rfl 0 rfl ?_
  refine s_iconst B dJ6_bitCount_0f7a4_2 ic_1 ?_
  refine s_iushr (v := mUshr x 1) B dJ6_bitCount_0f7a4_3 rfl ?_
  refine s_ldcw B cn_J6_265 dJ6_bitCount_0f7a4_4 ?_
  refine s_iand B dJ6_bitCount_0f7a4_7 ?_
  refine s_isub B dJ6_bitCount_0f7a4_8 ?_
  refine s_istore_n (lv' := [(0, _)]) B dJ6_bitCount_0f7a4_9 rfl (Nat.le_of_ble_eq_true rfl) rfl ?_
  refine s_iload_n B dJ6_bitCount_0f7a4_10 rfl 0 rfl ?_
  refine s_ldcw B cn_J6_266 dJ6_bitCount_0f7a4_11 ?_
  refine s_iand B dJ6_bitCount_0f7a4_14 ?_
  refine s_iload_n B dJ6_bitCount_0f7a4_15 rfl 0 rfl ?_
  refine s_iconst B dJ6_bitCount_0f7a4_16 ic_2 ?_
  refine s_iushr (v := mUshr (x - ((mUshr x 1) &&& 1431655765)) 2) B dJ6_bitCount_0f7a4_17 rfl ?_
  refine s_ldcw B cn_J6_266 dJ6_bitCount_0f7a4_18 ?_
  refine s_iand B dJ6_bitCount_0f7a4_21 ?_
  refine s_iadd B dJ6_bitCount_0f7a4_22 ?_
  refine s_istore_n (lv' := [(0, _)]) B dJ6_bitCount_0f7a4_23 rfl (Nat.le_of_ble_eq_true rfl) rfl ?_
  refine s_iload_n B dJ6_bitCount_0f7a4_24 rfl 0 rfl ?_
  refine s_iload_n B dJ6_bitCount_0f7a4_25 rfl 0 rfl ?_
  refine s_iconst B dJ6_bitCount_0f7a4_26 ic_4 ?_
  refine s_iushr (v := mUshr (((x - ((mUshr x 1) &&& 1431655765)) &&& 858993459) + ((mUshr (x - ((mUshr x 1) &&& 1431655765)) 2) &&& 858993459)) 4) B dJ6_bitCount_0f7a4_27 rfl ?_
  refine s_iadd B dJ6_bitCount_0f7a4_28 ?_
  refine s_ldcw B cn_J6_267 dJ6_bitCount_0f7a4_29 ?_
  refine s_iand B dJ6_bitCount_0f7a4_32 ?_
  refine s_istore_n (lv' := [(0, _)]) B dJ6_bitCount_0f7a4_33 rfl (Nat.le_of_ble_eq_true rfl) rfl ?_
  refine s_iload_n B dJ6_bitCount_0f7a4_34 rfl 0 rfl ?_
  refine s_iload_n B dJ6_bitCount_0f7a4_35 rfl 0 rfl ?_
  refine s_bipush B dJ6_bitCount_0f7a4_36 bp_8 ?_
  refine s_iushr (v := mUshr (((((x - ((mUshr x 1) &&& 1431655765)) &&& 858993459) + ((mUshr (x - ((mUshr x 1) &&& 1431655765)) 2) &&& 858993459)) + (mUshr (((x - ((mUshr x 1) &&& 1431655765)) &&& 858993459) + ((mUshr (x - ((mUshr x 1) &&& 1431655765)) 2) &&& 858993459)) 4)) &&& 252645135) 8) B dJ6_bitCount_0f7a4_38 rfl ?_
  refine s_iadd B dJ6_bitCount_0f7a4_39 ?_
  refine s_istore_n (lv' := [(0, _)]) B dJ6_bitCount_0f7a4_40 rfl (Nat.le_of_ble_eq_true rfl) rfl ?_
  refine s_iload_n B dJ6_bitCount_0f7a4_41 rfl 0 rfl ?_
  refine s_iload_n B dJ6_bitCount_0f7a4_42 rfl 0 rfl ?_
  refine s_bipush B dJ6_bitCount_0f7a4_43 bp_16 ?_
  refine s_iushr (v := mUshr ((((((x - ((mUshr x 1) &&& 1431655765)) &&& 858993459) + ((mUshr (x - ((mUshr x 1) &&& 1431655765)) 2) &&& 858993459)) + (mUshr (((x - ((mUshr x 1) &&& 1431655765)) &&& 858993459) + ((mUshr (x - ((mUshr x 1) &&& 1431655765)) 2) &&& 858993459)) 4)) &&& 252645135) + (mUshr (((((x - ((mUshr x 1) &&& 1431655765)) &&& 858993459) + ((mUshr (x - ((mUshr x 1) &&& 1431655765)) 2) &&& 858993459)) + (mUshr (((x - ((mUshr x 1) &&& 1431655765)) &&& 858993459) + ((mUshr (x - ((mUshr x 1) &&& 1431655765)) 2) &&& 858993459)) 4)) &&& 252645135) 8)) 16) B dJ6_bitCount_0f7a4_45 rfl ?_
  refine s_iadd B dJ6_bitCount_0f7a4_46 ?_
  refine s_istore_n (lv' := [(0, _)]) B dJ6_bitCount_0f7a4_47 rfl (Nat.le_of_ble_eq_true rfl) rfl ?_
  refine s_iload_n B dJ6_bitCount_0f7a4_48 rfl 0 rfl ?_
  refine s_bipush B dJ6_bitCount_0f7a4_49 bp_63 ?_
  refine s_iand B dJ6_bitCount_0f7a4_51 ?_
  refine s_iret B hQ hr dJ6_bitCount_0f7a4_52 rfl ?_
  exact ⟨rfl, rfl⟩
def rmX2_hasCross : Room := { frames := 0, cells := 0, slots := 0, locals := 0 }
theorem hd_X2_hasCross : yX2_hasCross.cls = RX2 ∧ yX2_hasCross.cls ≠ "java/lang/invoke/MethodHandle" ∧ yX2_hasCross.cls ≠ "java/lang/invoke/VarHandle" ∧ (parseMethodDescriptor yX2_hasCross.desc).map (fun d => d.parameters.length) = some 2 := by decide +kernel
set_option maxHeartbeats 4000000 in
set_option maxRecDepth 100000 in
theorem c_X2_hasCross (l : Launch) (D : va_G) (g : Nat → ClassId) (h : Nat → Nat) (kd ka ho fa si kn aw : Nat → Int32) (n : Nat) (ev cr tr lw : Nat → Int32) (td : Nat) (z : Int32) (q : Nat → Int32) (d : Nat) (c0 : Int32) (hd : d < 40) : Ci l yX2_hasCross (WW yX2_hasCross cX2_hasCross 3 (some FieldType.boolean)) rmX2_hasCross D vwCl (TY g) [.ref (h 0), .int (nI d), .int c0] (SchC g h kd ka ho fa si kn aw n ev cr tr lw td z q) (fun r u => r = (if mBitI (cr d) c0 then 1 else 0) ∧ u = SchC g h kd ka ho fa si kn aw n ev cr tr lw td z q) := by
  refine ci_in (by decide) (Nat.le_of_ble_eq_true rfl) (a0 := [h 0, h 1, h 2, h 3, h 4, h 5, h 6, h 7, h 8, h 9, h 10, h 11, h 12]) rfl (fun p e s m args below meth c A Q hQ B hr hsc => ?_)
  refine s_aload_n B dX2_hasCross_0 rfl 0 rfl ?_
  refine s_get (T := TX2) B inX2 0 rfl rfl 9 (Nat.le_of_ble_eq_true rfl) fl_X2_40 rfl rfl dX2_hasCross_1 ?_
  refine s_iload_n B dX2_hasCross_4 rfl 1 rfl ?_
  refine s_ialdN B 9 0 rfl rfl dX2_hasCross_5 (by omega) (by decide) ?_
  refine s_iload_n B dX2_hasCross_6 rfl 2 rfl ?_
  refine s_ishr B dX2_hasCross_7 ?_
  refine s_iconst B dX2_hasCross_8 ic_1 ?_
  refine s_iand B dX2_hasCross_9 ?_
  refine s_if_eq (tgt := 17) B dX2_hasCross_10 rfl (fun h10 => ?_) (fun h10 => ?_)
  · refine s_iconst B dX2_hasCross_17 ic_0 ?_
    refine s_zret B hQ hr dX2_hasCross_18 rfl rfl ?_
    exact ⟨by clear hQ B hr hsc; grind [mBitI], rfl⟩
  · refine s_iconst B dX2_hasCross_13 ic_1 ?_
    refine s_goto (tgt := 18) B dX2_hasCross_14 rfl ?_
    refine s_zret B hQ hr dX2_hasCross_18 rfl rfl ?_
    exact ⟨by clear hQ B hr hsc; grind [mBitI], rfl⟩
def rmX2_addChild : Room := { frames := 0, cells := 0, slots := 0, locals := 0 }
theorem hd_X2_addChild : yX2_addChild.cls = RX2 ∧ yX2_addChild.cls ≠ "java/lang/invoke/MethodHandle" ∧ yX2_addChild.cls ≠ "java/lang/invoke/VarHandle" ∧ (parseMethodDescriptor yX2_addChild.desc).map (fun d => d.parameters.length) = some 4 := by decide +kernel
set_option maxHeartbeats 4000000 in
set_option maxRecDepth 100000 in
theorem c_X2_addChild (l : Launch) (D : va_G) (g : Nat → ClassId) (h : Nat → Nat) (kd ka ho fa si kn aw : Nat → Int32) (n : Nat) (ev cr tr lw : Nat → Int32) (td : Nat) (z : Int32) (q : Nat → Int32) (k0 a0 o0 f0 : Int32) (hn : n < 8) : Ci l yX2_addChild (WW yX2_addChild cX2_addChild 5 (some FieldType.boolean)) rmX2_addChild D vwCl (TY g) [.ref (h 0), .int k0, .int a0, .int o0, .int f0] (SchC g h kd ka ho fa si kn aw n ev cr tr lw td z q) (fun r u => r = 1 ∧ u = SchC g h (upd kd n k0) (upd ka n a0) (upd ho n o0) (upd fa n f0) (upd si n 0) (upd kn n 0) (upd aw n 0) (n + 1) ev cr tr lw td z q) := by
  refine ci_in (by decide) (Nat.le_of_ble_eq_true rfl) (a0 := [h 0, h 1, h 2, h 3, h 4, h 5, h 6, h 7, h 8, h 9, h 10, h 11, h 12]) rfl (fun p e s m args below meth c A Q hQ B hr hsc => ?_)
  refine s_aload_n B dX2_addChild_0 rfl 0 rfl ?_
  refine s_get (T := TX2) B inX2 0 rfl rfl 7 (Nat.le_of_ble_eq_true rfl) fl_X2_33 rfl rfl dX2_addChild_1 ?_
  refine s_bipush B dX2_addChild_4 bp_8 ?_
  refine s_icmp_lt (tgt := 11) B dX2_addChild_6 rfl (fun h6 => ?_) (fun h6 => ?_)
  · replace h6 : n < 8 := (nI_ltI (a := n) (b := 8) (by omega) (by omega)).mp h6
    refine s_aload_n B dX2_addChild_11 rfl 0 rfl ?_
    refine s_get (T := TX2) B inX2 0 rfl rfl 0 (Nat.le_of_ble_eq_true rfl) fl_X2_9 rfl rfl dX2_addChild_12 ?_
    refine s_aload_n B dX2_addChild_15 rfl 0 rfl ?_
    refine s_get (T := TX2) B inX2 0 rfl rfl 7 (Nat.le_of_ble_eq_true rfl) fl_X2_33 rfl rfl dX2_addChild_16 ?_
    refine s_iload_n B dX2_addChild_19 rfl 1 rfl ?_
    refine s_iastN (ws' := [_, _, _, _, _, _, _, _, _, _, _, _, _]) B 1 0 rfl rfl rfl dX2_addChild_20 (by omega) (by decide) ?_
    refine s_aload_n B dX2_addChild_21 rfl 0 rfl ?_
    refine s_get (T := TX2) B inX2 0 rfl rfl 1 (Nat.le_of_ble_eq_true rfl) fl_X2_15 rfl rfl dX2_addChild_22 ?_
    refine s_aload_n B dX2_addChild_25 rfl 0 rfl ?_
    refine s_get (T := TX2) B inX2 0 rfl rfl 7 (Nat.le_of_ble_eq_true rfl) fl_X2_33 rfl rfl dX2_addChild_26 ?_
    refine s_iload_n B dX2_addChild_29 rfl 2 rfl ?_
    refine s_iastN (ws' := [_, _, _, _, _, _, _, _, _, _, _, _, _]) B 2 0 rfl rfl rfl dX2_addChild_30 (by omega) (by decide) ?_
    refine s_aload_n B dX2_addChild_31 rfl 0 rfl ?_
    refine s_get (T := TX2) B inX2 0 rfl rfl 2 (Nat.le_of_ble_eq_true rfl) fl_X2_18 rfl rfl dX2_addChild_32 ?_
    refine s_aload_n B dX2_addChild_35 rfl 0 rfl ?_
    refine s_get (T := TX2) B inX2 0 rfl rfl 7 (Nat.le_of_ble_eq_true rfl) fl_X2_33 rfl rfl dX2_addChild_36 ?_
    refine s_iload_n B dX2_addChild_39 rfl 3 rfl ?_
    refine s_iastN (ws' := [_, _, _, _, _, _, _, _, _, _, _, _, _]) B 3 0 rfl rfl rfl dX2_addChild_40 (by omega) (by decide) ?_
    refine s_aload_n B dX2_addChild_41 rfl 0 rfl ?_
    refine s_get (T := TX2) B inX2 0 rfl rfl 3 (Nat.le_of_ble_eq_true rfl) fl_X2_21 rfl rfl dX2_addChild_42 ?_
    refine s_aload_n B dX2_addChild_45 rfl 0 rfl ?_
    refine s_get (T := TX2) B inX2 0 rfl rfl 7 (Nat.le_of_ble_eq_true rfl) fl_X2_33 rfl rfl dX2_addChild_46 ?_
    refine s_iload B dX2_addChild_49 4 rfl ?_
    refine s_iastN (ws' := [_, _, _, _, _, _, _, _, _, _, _, _, _]) B 4 0 rfl rfl rfl dX2_addChild_51 (by omega) (by decide) ?_
    refine s_aload_n B dX2_addChild_52 rfl 0 rfl ?_
    refine s_get (T := TX2) B inX2 0 rfl rfl 4 (Nat.le_of_ble_eq_true rfl) fl_X2_24 rfl rfl dX2_addChild_53 ?_
    refine s_aload_n B dX2_addChild_56 rfl 0 rfl ?_
    refine s_get (T := TX2) B inX2 0 rfl rfl 7 (Nat.le_of_ble_eq_true rfl) fl_X2_33 rfl rfl dX2_addChild_57 ?_
    refine s_iconst B dX2_addChild_60 ic_0 ?_
    refine s_iastN (ws' := [_, _, _, _, _, _, _, _, _, _, _, _, _]) B 5 0 rfl rfl rfl dX2_addChild_61 (by omega) (by decide) ?_
    refine s_aload_n B dX2_addChild_62 rfl 0 rfl ?_
    refine s_get (T := TX2) B inX2 0 rfl rfl 5 (Nat.le_of_ble_eq_true rfl) fl_X2_27 rfl rfl dX2_addChild_63 ?_
    refine s_aload_n B dX2_addChild_66 rfl 0 rfl ?_
    refine s_get (T := TX2) B inX2 0 rfl rfl 7 (Nat.le_of_ble_eq_true rfl) fl_X2_33 rfl rfl dX2_addChild_67 ?_
    refine s_iconst B dX2_addChild_70 ic_0 ?_
    refine s_iastN (ws' := [_, _, _, _, _, _, _, _, _, _, _, _, _]) B 6 0 rfl rfl rfl dX2_addChild_71 (by omega) (by decide) ?_
    refine s_aload_n B dX2_addChild_72 rfl 0 rfl ?_
    refine s_get (T := TX2) B inX2 0 rfl rfl 6 (Nat.le_of_ble_eq_true rfl) fl_X2_30 rfl rfl dX2_addChild_73 ?_
    refine s_aload_n B dX2_addChild_76 rfl 0 rfl ?_
    refine s_get (T := TX2) B inX2 0 rfl rfl 7 (Nat.le_of_ble_eq_true rfl) fl_X2_33 rfl rfl dX2_addChild_77 ?_
    refine s_iconst B dX2_addChild_80 ic_0 ?_
    refine s_iastN (ws' := [_, _, _, _, _, _, _, _, _, _, _, _, _]) B 7 0 rfl rfl rfl dX2_addChild_81 (by omega) (by decide) ?_
    refine s_aload_n B dX2_addChild_82 rfl 0 rfl ?_
    refine s_dup B dX2_addChild_83 rfl ?_
    refine s_get (T := TX2) B inX2 0 rfl rfl 7 (Nat.le_of_ble_eq_true rfl) fl_X2_33 rfl rfl dX2_addChild_84 ?_
    refine s_iconst B dX2_addChild_87 ic_1 ?_
    refine s_iaddE B dX2_addChild_88 (nI_add n 1) ?_
    refine s_put (T := TX2) (ws' := [_, _, _, _, _, _, _, _, _, _, _, _, _]) B inX2 tyX2_ok nmX2 0 rfl rfl 7 (Nat.le_of_ble_eq_true rfl) fl_X2_33 rfl rfl rfl rfl (Nat.le_of_ble_eq_true rfl) rfl dX2_addChild_89 ?_
    refine s_iconst B dX2_addChild_92 ic_1 ?_
    refine s_zret B hQ hr dX2_addChild_93 rfl rfl ?_
    exact ⟨rfl, rfl⟩
  · replace h6 : ¬ n < 8 := fun hh => h6 ((nI_ltI (a := n) (b := 8) (by omega) (by omega)).mpr hh)
    refine s_iconst B dX2_addChild_9 ic_0 ?_
    refine s_zret B hQ hr dX2_addChild_10 rfl rfl ?_
    exfalso; omega
set_option maxHeartbeats 4000000 in
set_option maxRecDepth 100000 in
theorem c_X2_addChild_full (l : Launch) (D : va_G) (g : Nat → ClassId) (h : Nat → Nat) (kd ka ho fa si kn aw : Nat → Int32) (n : Nat) (ev cr tr lw : Nat → Int32) (td : Nat) (z : Int32) (q : Nat → Int32) (k0 a0 o0 f0 : Int32) (hn : n = 8) : Ci l yX2_addChild (WW yX2_addChild cX2_addChild 5 (some FieldType.boolean)) rmX2_addChild D vwCl (TY g) [.ref (h 0), .int k0, .int a0, .int o0, .int f0] (SchC g h kd ka ho fa si kn aw n ev cr tr lw td z q) (fun r u => r = 0 ∧ u = SchC g h kd ka ho fa si kn aw n ev cr tr lw td z q) := by
  refine ci_in (by decide) (Nat.le_of_ble_eq_true rfl) (a0 := [h 0, h 1, h 2, h 3, h 4, h 5, h 6, h 7, h 8, h 9, h 10, h 11, h 12]) rfl (fun p e s m args below meth c A Q hQ B hr hsc => ?_)
  refine s_aload_n B dX2_addChild_0 rfl 0 rfl ?_
  refine s_get (T := TX2) B inX2 0 rfl rfl 7 (Nat.le_of_ble_eq_true rfl) fl_X2_33 rfl rfl dX2_addChild_1 ?_
  refine s_bipush B dX2_addChild_4 bp_8 ?_
  refine s_icmp_lt (tgt := 11) B dX2_addChild_6 rfl (fun h6 => ?_) (fun h6 => ?_)
  · replace h6 : n < 8 := (nI_ltI (a := n) (b := 8) (by omega) (by omega)).mp h6
    exfalso; omega
  · replace h6 : ¬ n < 8 := fun hh => h6 ((nI_ltI (a := n) (b := 8) (by omega) (by omega)).mpr hh)
    refine s_iconst B dX2_addChild_9 ic_0 ?_
    refine s_zret B hQ hr dX2_addChild_10 rfl rfl ?_
    exact ⟨rfl, rfl⟩
def rmX2_featureOf : Room := { frames := 0, cells := 0, slots := 0, locals := 0 }
theorem hd_X2_featureOf : yX2_featureOf.cls = RX2 ∧ yX2_featureOf.cls ≠ "java/lang/invoke/MethodHandle" ∧ yX2_featureOf.cls ≠ "java/lang/invoke/VarHandle" ∧ (parseMethodDescriptor yX2_featureOf.desc).map (fun d => d.parameters.length) = some 2 := by decide +kernel
set_option maxHeartbeats 4000000 in
set_option maxRecDepth 100000 in
theorem c_X2_featureOf (l : Launch) (D : va_G) (g : Nat → ClassId) (h : Nat → Nat) (kd ka ho fa si kn aw : Nat → Int32) (n : Nat) (ev cr tr lw : Nat → Int32) (td : Nat) (z : Int32) (q : Nat → Int32) (k : Nat) (w0 : Int32) (hk : k < 8) : Ci l yX2_featureOf (WW yX2_featureOf cX2_featureOf 3 (some FieldType.int)) rmX2_featureOf D vwCl (TY g) [.ref (h 0), .int (nI k), .int w0] (SchC g h kd ka ho fa si kn aw n ev cr tr lw td z q) (fun r u => r = (if w0 = 0 then kd k else if w0 = 1 then ka k else if w0 = 2 then ho k else if w0 = 3 then fa k else if w0 = 4 then si k else if w0 = 5 then kn k else if w0 = 6 then aw k else -1) ∧ u = SchC g h kd ka ho fa si kn aw n ev cr tr lw td z q) := by
  refine ci_in (by decide) (Nat.le_of_ble_eq_true rfl) (a0 := [h 0, h 1, h 2, h 3, h 4, h 5, h 6, h 7, h 8, h 9, h 10, h 11, h 12]) rfl (fun p e s m args below meth c A Q hQ B hr hsc => ?_)
  refine s_iload_n B dX2_featureOf_0 rfl 2 rfl ?_
  by_cases k1_0 : w0 = 0
  · refine s_tableIn (off := 43) (tgt := 44) B dX2_featureOf_1 (by rw [k1_0]; decide) (by rw [k1_0]; decide) (by rw [k1_0]; rfl) rfl ?_
    refine s_aload_n B dX2_featureOf_44 rfl 0 rfl ?_
    refine s_get (T := TX2) B inX2 0 rfl rfl 0 (Nat.le_of_ble_eq_true rfl) fl_X2_9 rfl rfl dX2_featureOf_45 ?_
    refine s_iload_n B dX2_featureOf_48 rfl 1 rfl ?_
    refine s_ialdN B 1 0 rfl rfl dX2_featureOf_49 (by omega) (by decide) ?_
    refine s_iret B hQ hr dX2_featureOf_50 rfl ?_
    exact ⟨by clear hQ B hr hsc; grind, rfl⟩
  · by_cases k1_1 : w0 = 1
    · refine s_tableIn (off := 50) (tgt := 51) B dX2_featureOf_1 (by rw [k1_1]; decide) (by rw [k1_1]; decide) (by rw [k1_1]; rfl) rfl ?_
      refine s_aload_n B dX2_featureOf_51 rfl 0 rfl ?_
      refine s_get (T := TX2) B inX2 0 rfl rfl 1 (Nat.le_of_ble_eq_true rfl) fl_X2_15 rfl rfl dX2_featureOf_52 ?_
      refine s_iload_n B dX2_featureOf_55 rfl 1 rfl ?_
      refine s_ialdN B 2 0 rfl rfl dX2_featureOf_56 (by omega) (by decide) ?_
      refine s_iret B hQ hr dX2_featureOf_57 rfl ?_
      exact ⟨by clear hQ B hr hsc; grind, rfl⟩
    · by_cases k1_2 : w0 = 2
      · refine s_tableIn (off := 57) (tgt := 58) B dX2_featureOf_1 (by rw [k1_2]; decide) (by rw [k1_2]; decide) (by rw [k1_2]; rfl) rfl ?_
        refine s_aload_n B dX2_featureOf_58 rfl 0 rfl ?_
        refine s_get (T := TX2) B inX2 0 rfl rfl 2 (Nat.le_of_ble_eq_true rfl) fl_X2_18 rfl rfl dX2_featureOf_59 ?_
        refine s_iload_n B dX2_featureOf_62 rfl 1 rfl ?_
        refine s_ialdN B 3 0 rfl rfl dX2_featureOf_63 (by omega) (by decide) ?_
        refine s_iret B hQ hr dX2_featureOf_64 rfl ?_
        exact ⟨by clear hQ B hr hsc; grind, rfl⟩
      · by_cases k1_3 : w0 = 3
        · refine s_tableIn (off := 64) (tgt := 65) B dX2_featureOf_1 (by rw [k1_3]; decide) (by rw [k1_3]; decide) (by rw [k1_3]; rfl) rfl ?_
          refine s_aload_n B dX2_featureOf_65 rfl 0 rfl ?_
          refine s_get (T := TX2) B inX2 0 rfl rfl 3 (Nat.le_of_ble_eq_true rfl) fl_X2_21 rfl rfl dX2_featureOf_66 ?_
          refine s_iload_n B dX2_featureOf_69 rfl 1 rfl ?_
          refine s_ialdN B 4 0 rfl rfl dX2_featureOf_70 (by omega) (by decide) ?_
          refine s_iret B hQ hr dX2_featureOf_71 rfl ?_
          exact ⟨by clear hQ B hr hsc; grind, rfl⟩
        · by_cases k1_4 : w0 = 4
          · refine s_tableIn (off := 71) (tgt := 72) B dX2_featureOf_1 (by rw [k1_4]; decide) (by rw [k1_4]; decide) (by rw [k1_4]; rfl) rfl ?_
            refine s_aload_n B dX2_featureOf_72 rfl 0 rfl ?_
            refine s_get (T := TX2) B inX2 0 rfl rfl 4 (Nat.le_of_ble_eq_true rfl) fl_X2_24 rfl rfl dX2_featureOf_73 ?_
            refine s_iload_n B dX2_featureOf_76 rfl 1 rfl ?_
            refine s_ialdN B 5 0 rfl rfl dX2_featureOf_77 (by omega) (by decide) ?_
            refine s_iret B hQ hr dX2_featureOf_78 rfl ?_
            exact ⟨by clear hQ B hr hsc; grind, rfl⟩
          · by_cases k1_5 : w0 = 5
            · refine s_tableIn (off := 78) (tgt := 79) B dX2_featureOf_1 (by rw [k1_5]; decide) (by rw [k1_5]; decide) (by rw [k1_5]; rfl) rfl ?_
              refine s_aload_n B dX2_featureOf_79 rfl 0 rfl ?_
              refine s_get (T := TX2) B inX2 0 rfl rfl 5 (Nat.le_of_ble_eq_true rfl) fl_X2_27 rfl rfl dX2_featureOf_80 ?_
              refine s_iload_n B dX2_featureOf_83 rfl 1 rfl ?_
              refine s_ialdN B 6 0 rfl rfl dX2_featureOf_84 (by omega) (by decide) ?_
              refine s_iret B hQ hr dX2_featureOf_85 rfl ?_
              exact ⟨by clear hQ B hr hsc; grind, rfl⟩
            · by_cases k1_6 : w0 = 6
              · refine s_tableIn (off := 85) (tgt := 86) B dX2_featureOf_1 (by rw [k1_6]; decide) (by rw [k1_6]; decide) (by rw [k1_6]; rfl) rfl ?_
                refine s_aload_n B dX2_featureOf_86 rfl 0 rfl ?_
                refine s_get (T := TX2) B inX2 0 rfl rfl 6 (Nat.le_of_ble_eq_true rfl) fl_X2_30 rfl rfl dX2_featureOf_87 ?_
                refine s_iload_n B dX2_featureOf_90 rfl 1 rfl ?_
                refine s_ialdN B 7 0 rfl rfl dX2_featureOf_91 (by omega) (by decide) ?_
                refine s_iret B hQ hr dX2_featureOf_92 rfl ?_
                exact ⟨by clear hQ B hr hsc; grind, rfl⟩
              · refine s_tableOut (tgt := 93) B dX2_featureOf_1 (by have q0 := lv_neT k1_0 (show (0 : Int32).toInt = 0 from by decide); have q1 := lv_neT k1_1 (show (1 : Int32).toInt = 1 from by decide); have q2 := lv_neT k1_2 (show (2 : Int32).toInt = 2 from by decide); have q3 := lv_neT k1_3 (show (3 : Int32).toInt = 3 from by decide); have q4 := lv_neT k1_4 (show (4 : Int32).toInt = 4 from by decide); have q5 := lv_neT k1_5 (show (5 : Int32).toInt = 5 from by decide); have q6 := lv_neT k1_6 (show (6 : Int32).toInt = 6 from by decide); omega) rfl ?_
                refine s_iconst B dX2_featureOf_93 ic_m1 ?_
                refine s_iret B hQ hr dX2_featureOf_94 rfl ?_
                exact ⟨by clear hQ B hr hsc; grind, rfl⟩
def rmX2_knockAt : Room := { frames := 0, cells := 0, slots := 0, locals := 0 }
theorem hd_X2_knockAt : yX2_knockAt.cls = RX2 ∧ yX2_knockAt.cls ≠ "java/lang/invoke/MethodHandle" ∧ yX2_knockAt.cls ≠ "java/lang/invoke/VarHandle" ∧ (parseMethodDescriptor yX2_knockAt.desc).map (fun d => d.parameters.length) = some 1 := by decide +kernel
set_option maxHeartbeats 4000000 in
set_option maxRecDepth 100000 in
theorem c_X2_knockAt (l : Launch) (D : va_G) (g : Nat → ClassId) (h : Nat → Nat) (kd ka ho fa si kn aw : Nat → Int32) (n : Nat) (ev cr tr lw : Nat → Int32) (td : Nat) (z : Int32) (q : Nat → Int32) (v : Int32) (hn : n ≤ 8) : Ci l yX2_knockAt (WW yX2_knockAt cX2_knockAt 4 (some FieldType.int)) rmX2_knockAt D vwCl (TY g) [.ref (h 0), .int v] (SchC g h kd ka ho fa si kn aw n ev cr tr lw td z q) (fun r u => r = nI (mCt (fun c => decide (ho c = v)) n) ∧ u = SchC g h kd ka ho fa si (mKn1 ho lw v kn n) aw n ev cr tr lw td z q) := by
  refine ci_in (by decide) (Nat.le_of_ble_eq_true rfl) (a0 := [h 0, h 1, h 2, h 3, h 4, h 5, h 6, h 7, h 8, h 9, h 10, h 11, h 12]) rfl (fun p e s m args below meth c A Q hQ B hr hsc => ?_)
  have L4 : ∀ (jj : Nat) (k : Nat), n - k < jj → (k ≤ n) → Sx p l e rmX2_knockAt s m args below meth c D vwCl A 4 Q 4 [(0, .ref (h 0)), (1, .int v), (2, .int (nI (mCt (fun c => decide (ho c = v)) k))), (3, .int (nI k))] [] [(h 0, .inr (2, [.ref (h 1), .ref (h 2), .ref (h 3), .ref (h 4), .ref (h 5), .ref (h 6), .ref (h 7), .int (nI n), .ref (h 8), .ref (h 9), .ref (h 10), .ref (h 11), .int (nI td), .int z, .ref (h 12)])), (h 1, .inl (g 0, 8, .inl kd)), (h 2, .inl (g 0, 8, .inl ka)), (h 3, .inl (g 0, 8, .inl ho)), (h 4, .inl (g 0, 8, .inl fa)), (h 5, .inl (g 0, 8, .inl si)), (h 6, .inl (g 0, 8, .inl (mKn1 ho lw v kn k))), (h 7, .inl (g 0, 8, .inl aw)), (h 8, .inl (g 0, 40, .inl ev)), (h 9, .inl (g 0, 40, .inl cr)), (h 10, .inl (g 0, 40, .inl tr)), (h 11, .inl (g 0, 4, .inl lw)), (h 12, .inr (0, [.int (q 0), .int (q 1), .int (q 2), .int (q 3), .int (q 4), .int (q 5), .int (q 6), .int (q 7), .int (q 8)]))] := by
    intro jj
    induction jj with
    | zero => intro k hj; exact absurd hj (Nat.not_lt_zero _)
    | succ jj ih =>
      intro k hj hk
      refine s_iload_n B dX2_knockAt_4 rfl 3 rfl ?_
      refine s_aload_n B dX2_knockAt_5 rfl 0 rfl ?_
      refine s_get (T := TX2) B inX2 0 rfl rfl 7 (Nat.le_of_ble_eq_true rfl) fl_X2_33 rfl rfl dX2_knockAt_6 ?_
      refine s_icmp_ge (tgt := 43) B dX2_knockAt_9 rfl (fun h9 => ?_) (fun h9 => ?_)
      · replace h9 : n ≤ k := (nI_leI (a := n) (b := k) (by omega) (by omega)).mp h9
        refine s_iload_n B dX2_knockAt_43 rfl 2 rfl ?_
        refine s_iret B hQ hr dX2_knockAt_44 rfl ?_
        have e9 : k = n := by omega
        subst e9
        exact ⟨rfl, rfl⟩
      · replace h9 : ¬ n ≤ k := fun hh => h9 ((nI_leI (a := n) (b := k) (by omega) (by omega)).mpr hh)
        refine s_aload_n B dX2_knockAt_12 rfl 0 rfl ?_
        refine s_get (T := TX2) B inX2 0 rfl rfl 2 (Nat.le_of_ble_eq_true rfl) fl_X2_18 rfl rfl dX2_knockAt_13 ?_
        refine s_iload_n B dX2_knockAt_16 rfl 3 rfl ?_
        refine s_ialdN B 3 0 rfl rfl dX2_knockAt_17 (by omega) (by decide) ?_
        refine s_iload_n B dX2_knockAt_18 rfl 1 rfl ?_
        refine s_icmp_ne (tgt := 37) B dX2_knockAt_19 rfl (fun h19 => ?_) (fun h19 => ?_)
        · refine s_iinc (lv' := [(3, _), (0, _), (1, _), (2, _)]) (k := 3) B dX2_knockAt_37 rfl (ii_n _) (Nat.le_of_ble_eq_true rfl) rfl ?_
          refine s_goto (tgt := 4) B dX2_knockAt_40 rfl ?_
          refine s_lv (lv' := [(0, _), (1, _), (2, _), (3, _)]) [1, 2, 3, 0] rfl ?_
          refine s_lve (lv' := [(0, .ref (h 0)), (1, .int v), (2, .int (nI (mCt (fun c => decide (ho c = v)) (k + 1)))), (3, .int (nI (k + 1)))]) (by clear hQ B hr hsc; grind [mCt]) ?_
          refine s_ws (ws' := [(h 0, .inr (2, [.ref (h 1), .ref (h 2), .ref (h 3), .ref (h 4), .ref (h 5), .ref (h 6), .ref (h 7), .int (nI n), .ref (h 8), .ref (h 9), .ref (h 10), .ref (h 11), .int (nI td), .int z, .ref (h 12)])), (h 1, .inl (g 0, 8, .inl kd)), (h 2, .inl (g 0, 8, .inl ka)), (h 3, .inl (g 0, 8, .inl ho)), (h 4, .inl (g 0, 8, .inl fa)), (h 5, .inl (g 0, 8, .inl si)), (h 6, .inl (g 0, 8, .inl (mKn1 ho lw v kn (k + 1)))), (h 7, .inl (g 0, 8, .inl aw)), (h 8, .inl (g 0, 40, .inl ev)), (h 9, .inl (g 0, 40, .inl cr)), (h 10, .inl (g 0, 40, .inl tr)), (h 11, .inl (g 0, 4, .inl lw)), (h 12, .inr (0, [.int (q 0), .int (q 1), .int (q 2), .int (q 3), .int (q 4), .int (q 5), .int (q 6), .int (q 7), .int (q 8)]))]) (by clear hQ B hr hsc; unfold mKn1; first | (rw [mSpr_t (f := fun c => decide (ho c = v)) (lw 0) kn (by clear ih; grind)]; done) | (rw [mSpr_f (f := fun c => decide (ho c = v)) (lw 0) kn (by clear ih; grind)]; done)) ?_
          exact ih (k + 1) (by omega) (by omega)
        · refine s_aload_n B dX2_knockAt_22 rfl 0 rfl ?_
          refine s_get (T := TX2) B inX2 0 rfl rfl 5 (Nat.le_of_ble_eq_true rfl) fl_X2_27 rfl rfl dX2_knockAt_23 ?_
          refine s_iload_n B dX2_knockAt_26 rfl 3 rfl ?_
          refine s_aload_n B dX2_knockAt_27 rfl 0 rfl ?_
          refine s_get (T := TX2) B inX2 0 rfl rfl 11 (Nat.le_of_ble_eq_true rfl) fl_X2_46 rfl rfl dX2_knockAt_28 ?_
          refine s_iconst B dX2_knockAt_31 ic_0 ?_
          refine s_ialdN B 11 0 rfl rfl dX2_knockAt_32 (by decide) (by decide) ?_
          refine s_iastN (ws' := [_, _, _, _, _, _, _, _, _, _, _, _, _]) B 6 0 rfl rfl rfl dX2_knockAt_33 (by omega) (by decide) ?_
          refine s_iinc (lv' := [(2, _), (0, _), (1, _), (3, _)]) (k := 2) B dX2_knockAt_34 rfl (ii_n _) (Nat.le_of_ble_eq_true rfl) rfl ?_
          refine s_iinc (lv' := [(3, _), (2, _), (0, _), (1, _)]) (k := 3) B dX2_knockAt_37 rfl (ii_n _) (Nat.le_of_ble_eq_true rfl) rfl ?_
          refine s_goto (tgt := 4) B dX2_knockAt_40 rfl ?_
          refine s_lv (lv' := [(0, _), (1, _), (2, _), (3, _)]) [2, 3, 1, 0] rfl ?_
          refine s_lve (lv' := [(0, .ref (h 0)), (1, .int v), (2, .int (nI (mCt (fun c => decide (ho c = v)) (k + 1)))), (3, .int (nI (k + 1)))]) (by clear hQ B hr hsc; grind [mCt]) ?_
          refine s_ws (ws' := [(h 0, .inr (2, [.ref (h 1), .ref (h 2), .ref (h 3), .ref (h 4), .ref (h 5), .ref (h 6), .ref (h 7), .int (nI n), .ref (h 8), .ref (h 9), .ref (h 10), .ref (h 11), .int (nI td), .int z, .ref (h 12)])), (h 1, .inl (g 0, 8, .inl kd)), (h 2, .inl (g 0, 8, .inl ka)), (h 3, .inl (g 0, 8, .inl ho)), (h 4, .inl (g 0, 8, .inl fa)), (h 5, .inl (g 0, 8, .inl si)), (h 6, .inl (g 0, 8, .inl (mKn1 ho lw v kn (k + 1)))), (h 7, .inl (g 0, 8, .inl aw)), (h 8, .inl (g 0, 40, .inl ev)), (h 9, .inl (g 0, 40, .inl cr)), (h 10, .inl (g 0, 40, .inl tr)), (h 11, .inl (g 0, 4, .inl lw)), (h 12, .inr (0, [.int (q 0), .int (q 1), .int (q 2), .int (q 3), .int (q 4), .int (q 5), .int (q 6), .int (q 7), .int (q 8)]))]) (by clear hQ B hr hsc; unfold mKn1; first | (rw [mSpr_t (f := fun c => decide (ho c = v)) (lw 0) kn (by clear ih; grind)]; done) | (rw [mSpr_f (f := fun c => decide (ho c = v)) (lw 0) kn (by clear ih; grind)]; done)) ?_
          exact ih (k + 1) (by omega) (by omega)
  refine s_iconst B dX2_knockAt_0 ic_0 ?_
  refine s_istore_n (lv' := [(2, _), (0, _), (1, _)]) B dX2_knockAt_1 rfl (Nat.le_of_ble_eq_true rfl) rfl ?_
  refine s_iconst B dX2_knockAt_2 ic_0 ?_
  refine s_istore_n (lv' := [(3, _), (2, _), (0, _), (1, _)]) B dX2_knockAt_3 rfl (Nat.le_of_ble_eq_true rfl) rfl ?_
  refine s_lv (lv' := [(0, _), (1, _), (2, _), (3, _)]) [2, 3, 1, 0] rfl ?_
  refine s_lve (lv' := [(0, .ref (h 0)), (1, .int v), (2, .int (nI (mCt (fun c => decide (ho c = v)) 0))), (3, .int (nI 0))]) (by rfl) ?_
  refine s_ws (ws' := [(h 0, .inr (2, [.ref (h 1), .ref (h 2), .ref (h 3), .ref (h 4), .ref (h 5), .ref (h 6), .ref (h 7), .int (nI n), .ref (h 8), .ref (h 9), .ref (h 10), .ref (h 11), .int (nI td), .int z, .ref (h 12)])), (h 1, .inl (g 0, 8, .inl kd)), (h 2, .inl (g 0, 8, .inl ka)), (h 3, .inl (g 0, 8, .inl ho)), (h 4, .inl (g 0, 8, .inl fa)), (h 5, .inl (g 0, 8, .inl si)), (h 6, .inl (g 0, 8, .inl (mKn1 ho lw v kn 0))), (h 7, .inl (g 0, 8, .inl aw)), (h 8, .inl (g 0, 40, .inl ev)), (h 9, .inl (g 0, 40, .inl cr)), (h 10, .inl (g 0, 40, .inl tr)), (h 11, .inl (g 0, 4, .inl lw)), (h 12, .inr (0, [.int (q 0), .int (q 1), .int (q 2), .int (q 3), .int (q 4), .int (q 5), .int (q 6), .int (q 7), .int (q 8)]))]) (by unfold mKn1; rw [mSpr_0]) ?_
  exact L4 (n + 1) 0 (by omega) (by omega)
def rmX2_allCrosses : Room := { frames := 1, cells := 0, slots := 0, locals := 20 }
theorem hd_X2_allCrosses : yX2_allCrosses.cls = RX2 ∧ yX2_allCrosses.cls ≠ "java/lang/invoke/MethodHandle" ∧ yX2_allCrosses.cls ≠ "java/lang/invoke/VarHandle" ∧ (parseMethodDescriptor yX2_allCrosses.desc).map (fun d => d.parameters.length) = some 0 := by decide +kernel
set_option maxHeartbeats 4000000 in
set_option maxRecDepth 100000 in
theorem c_X2_allCrosses (l : Launch) (D : va_G) (g : Nat → ClassId) (h : Nat → Nat) (kd ka ho fa si kn aw : Nat → Int32) (n : Nat) (ev cr tr lw : Nat → Int32) (td : Nat) (z : Int32) (q : Nat → Int32) : Ci l yX2_allCrosses (WW yX2_allCrosses cX2_allCrosses 3 (some FieldType.int)) rmX2_allCrosses D vwCl (TY g) [.ref (h 0)] (SchC g h kd ka ho fa si kn aw n ev cr tr lw td z q) (fun r u => r = mSumI (fun d => mPop (cr d)) 40 ∧ u = SchC g h kd ka ho fa si kn aw n ev cr tr lw td z q) := by
  refine ci_in (by decide) (Nat.le_of_ble_eq_true rfl) (a0 := [h 0, h 1, h 2, h 3, h 4, h 5, h 6, h 7, h 8, h 9, h 10, h 11, h 12]) rfl (fun p e s m args below meth c A Q hQ B hr hsc => ?_)
  have L4 : ∀ (jj : Nat) (k : Nat), 40 - k < jj → (k ≤ 40) → Sx p l e rmX2_allCrosses s m args below meth c D vwCl A 3 Q 4 [(0, .ref (h 0)), (1, .int (mSumI (fun d => mPop (cr d)) k)), (2, .int (nI k))] [] [(h 0, .inr (2, [.ref (h 1), .ref (h 2), .ref (h 3), .ref (h 4), .ref (h 5), .ref (h 6), .ref (h 7), .int (nI n), .ref (h 8), .ref (h 9), .ref (h 10), .ref (h 11), .int (nI td), .int z, .ref (h 12)])), (h 1, .inl (g 0, 8, .inl kd)), (h 2, .inl (g 0, 8, .inl ka)), (h 3, .inl (g 0, 8, .inl ho)), (h 4, .inl (g 0, 8, .inl fa)), (h 5, .inl (g 0, 8, .inl si)), (h 6, .inl (g 0, 8, .inl kn)), (h 7, .inl (g 0, 8, .inl aw)), (h 8, .inl (g 0, 40, .inl ev)), (h 9, .inl (g 0, 40, .inl cr)), (h 10, .inl (g 0, 40, .inl tr)), (h 11, .inl (g 0, 4, .inl lw)), (h 12, .inr (0, [.int (q 0), .int (q 1), .int (q 2), .int (q 3), .int (q 4), .int (q 5), .int (q 6), .int (q 7), .int (q 8)]))] := by
    intro jj
    induction jj with
    | zero => intro k hj; exact absurd hj (Nat.not_lt_zero _)
    | succ jj ih =>
      intro k hj hk
      refine s_iload_n B dX2_allCrosses_4 rfl 2 rfl ?_
      refine s_bipush B dX2_allCrosses_5 bp_40 ?_
      refine s_icmp_ge (tgt := 28) B dX2_allCrosses_7 rfl (fun h7 => ?_) (fun h7 => ?_)
      · replace h7 : 40 ≤ k := (nI_leI (a := 40) (b := k) (by omega) (by omega)).mp h7
        refine s_iload_n B dX2_allCrosses_28 rfl 1 rfl ?_
        refine s_iret B hQ hr dX2_allCrosses_29 rfl ?_
        have e9 : k = 40 := by omega
        subst e9
        exact ⟨rfl, rfl⟩
      · replace h7 : ¬ 40 ≤ k := fun hh => h7 ((nI_leI (a := 40) (b := k) (by omega) (by omega)).mpr hh)
        refine s_iload_n B dX2_allCrosses_10 rfl 1 rfl ?_
        refine s_aload_n B dX2_allCrosses_11 rfl 0 rfl ?_
        refine s_get (T := TX2) B inX2 0 rfl rfl 9 (Nat.le_of_ble_eq_true rfl) fl_X2_40 rfl rfl dX2_allCrosses_12 ?_
        refine s_iload_n B dX2_allCrosses_15 rfl 2 rfl ?_
        refine s_ialdN B 9 0 rfl rfl dX2_allCrosses_16 (by omega) (by decide) ?_
        refine s_callSi B hsc (c_J6_bitCount_0f7a4 l D g (cr k)) (gw_S ml_X2_123 sm_yJ6_bitCount_0f7a4 ini_RJ6 co_yJ6_bitCount_0f7a4) hd_J6_bitCount_0f7a4 rfl rfl ⟨(Nat.le_of_ble_eq_true rfl), (Nat.le_of_ble_eq_true rfl)⟩ [] [0, 1, 2, 3, 4] rfl rfl rfl rfl rfl (Nat.le_of_ble_eq_true rfl) dX2_allCrosses_17 (fun r u hpo => ?_)
        obtain ⟨rfl, rfl⟩ := hpo
        refine s_st (st' := [.int (mPop (cr k)), .int (mSumI (fun d => mPop (cr d)) k)]) rfl ?_
        refine s_ws (ws' := [(h 0, .inr (2, [.ref (h 1), .ref (h 2), .ref (h 3), .ref (h 4), .ref (h 5), .ref (h 6), .ref (h 7), .int (nI n), .ref (h 8), .ref (h 9), .ref (h 10), .ref (h 11), .int (nI td), .int z, .ref (h 12)])), (h 1, .inl (g 0, 8, .inl kd)), (h 2, .inl (g 0, 8, .inl ka)), (h 3, .inl (g 0, 8, .inl ho)), (h 4, .inl (g 0, 8, .inl fa)), (h 5, .inl (g 0, 8, .inl si)), (h 6, .inl (g 0, 8, .inl kn)), (h 7, .inl (g 0, 8, .inl aw)), (h 8, .inl (g 0, 40, .inl ev)), (h 9, .inl (g 0, 40, .inl cr)), (h 10, .inl (g 0, 40, .inl tr)), (h 11, .inl (g 0, 4, .inl lw)), (h 12, .inr (0, [.int (q 0), .int (q 1), .int (q 2), .int (q 3), .int (q 4), .int (q 5), .int (q 6), .int (q 7), .int (q 8)]))]) rfl ?_
        refine s_iadd B dX2_allCrosses_20 ?_
        refine s_istore_n (lv' := [(1, _), (0, _), (2, _)]) B dX2_allCrosses_21 rfl (Nat.le_of_ble_eq_true rfl) rfl ?_
        refine s_iinc (lv' := [(2, _), (1, _), (0, _)]) (k := 2) B dX2_allCrosses_22 rfl (ii_n _) (Nat.le_of_ble_eq_true rfl) rfl ?_
        refine s_goto (tgt := 4) B dX2_allCrosses_25 rfl ?_
        refine s_lv (lv' := [(0, _), (1, _), (2, _)]) [2, 1, 0] rfl ?_
        refine s_lve (lv' := [(0, .ref (h 0)), (1, .int (mSumI (fun d => mPop (cr d)) (k + 1))), (2, .int (nI (k + 1)))]) (by rfl) ?_
        exact ih (k + 1) (by omega) (by omega)
  refine s_iconst B dX2_allCrosses_0 ic_0 ?_
  refine s_istore_n (lv' := [(1, _), (0, _)]) B dX2_allCrosses_1 rfl (Nat.le_of_ble_eq_true rfl) rfl ?_
  refine s_iconst B dX2_allCrosses_2 ic_0 ?_
  refine s_istore_n (lv' := [(2, _), (1, _), (0, _)]) B dX2_allCrosses_3 rfl (Nat.le_of_ble_eq_true rfl) rfl ?_
  refine s_lv (lv' := [(0, _), (1, _), (2, _)]) [2, 1, 0] rfl ?_
  refine s_lve (lv' := [(0, .ref (h 0)), (1, .int (mSumI (fun d => mPop (cr d)) 0)), (2, .int (nI 0))]) (by rfl) ?_
  exact L4 (40 + 1) 0 (by omega) (by omega)
def rmX2_falseCrosses : Room := { frames := 1, cells := 0, slots := 0, locals := 20 }
theorem hd_X2_falseCrosses : yX2_falseCrosses.cls = RX2 ∧ yX2_falseCrosses.cls ≠ "java/lang/invoke/MethodHandle" ∧ yX2_falseCrosses.cls ≠ "java/lang/invoke/VarHandle" ∧ (parseMethodDescriptor yX2_falseCrosses.desc).map (fun d => d.parameters.length) = some 0 := by decide +kernel
set_option maxHeartbeats 4000000 in
set_option maxRecDepth 100000 in
theorem c_X2_falseCrosses (l : Launch) (D : va_G) (g : Nat → ClassId) (h : Nat → Nat) (kd ka ho fa si kn aw : Nat → Int32) (n : Nat) (ev cr tr lw : Nat → Int32) (td : Nat) (z : Int32) (q : Nat → Int32) : Ci l yX2_falseCrosses (WW yX2_falseCrosses cX2_falseCrosses 3 (some FieldType.int)) rmX2_falseCrosses D vwCl (TY g) [.ref (h 0)] (SchC g h kd ka ho fa si kn aw n ev cr tr lw td z q) (fun r u => r = mSumI (fun d => mPop (cr d &&& (tr d ^^^ (-1)))) 40 ∧ u = SchC g h kd ka ho fa si kn aw n ev cr tr lw td z q) := by
  refine ci_in (by decide) (Nat.le_of_ble_eq_true rfl) (a0 := [h 0, h 1, h 2, h 3, h 4, h 5, h 6, h 7, h 8, h 9, h 10, h 11, h 12]) rfl (fun p e s m args below meth c A Q hQ B hr hsc => ?_)
  have L4 : ∀ (jj : Nat) (k : Nat), 40 - k < jj → (k ≤ 40) → Sx p l e rmX2_falseCrosses s m args below meth c D vwCl A 3 Q 4 [(0, .ref (h 0)), (1, .int (mSumI (fun d => mPop (cr d &&& (tr d ^^^ (-1)))) k)), (2, .int (nI k))] [] [(h 0, .inr (2, [.ref (h 1), .ref (h 2), .ref (h 3), .ref (h 4), .ref (h 5), .ref (h 6), .ref (h 7), .int (nI n), .ref (h 8), .ref (h 9), .ref (h 10), .ref (h 11), .int (nI td), .int z, .ref (h 12)])), (h 1, .inl (g 0, 8, .inl kd)), (h 2, .inl (g 0, 8, .inl ka)), (h 3, .inl (g 0, 8, .inl ho)), (h 4, .inl (g 0, 8, .inl fa)), (h 5, .inl (g 0, 8, .inl si)), (h 6, .inl (g 0, 8, .inl kn)), (h 7, .inl (g 0, 8, .inl aw)), (h 8, .inl (g 0, 40, .inl ev)), (h 9, .inl (g 0, 40, .inl cr)), (h 10, .inl (g 0, 40, .inl tr)), (h 11, .inl (g 0, 4, .inl lw)), (h 12, .inr (0, [.int (q 0), .int (q 1), .int (q 2), .int (q 3), .int (q 4), .int (q 5), .int (q 6), .int (q 7), .int (q 8)]))] := by
    intro jj
    induction jj with
    | zero => intro k hj; exact absurd hj (Nat.not_lt_zero _)
    | succ jj ih =>
      intro k hj hk
      refine s_iload_n B dX2_falseCrosses_4 rfl 2 rfl ?_
      refine s_bipush B dX2_falseCrosses_5 bp_40 ?_
      refine s_icmp_ge (tgt := 37) B dX2_falseCrosses_7 rfl (fun h7 => ?_) (fun h7 => ?_)
      · replace h7 : 40 ≤ k := (nI_leI (a := 40) (b := k) (by omega) (by omega)).mp h7
        refine s_iload_n B dX2_falseCrosses_37 rfl 1 rfl ?_
        refine s_iret B hQ hr dX2_falseCrosses_38 rfl ?_
        have e9 : k = 40 := by omega
        subst e9
        exact ⟨rfl, rfl⟩
      · replace h7 : ¬ 40 ≤ k := fun hh => h7 ((nI_leI (a := 40) (b := k) (by omega) (by omega)).mpr hh)
        refine s_iload_n B dX2_falseCrosses_10 rfl 1 rfl ?_
        refine s_aload_n B dX2_falseCrosses_11 rfl 0 rfl ?_
        refine s_get (T := TX2) B inX2 0 rfl rfl 9 (Nat.le_of_ble_eq_true rfl) fl_X2_40 rfl rfl dX2_falseCrosses_12 ?_
        refine s_iload_n B dX2_falseCrosses_15 rfl 2 rfl ?_
        refine s_ialdN B 9 0 rfl rfl dX2_falseCrosses_16 (by omega) (by decide) ?_
        refine s_aload_n B dX2_falseCrosses_17 rfl 0 rfl ?_
        refine s_get (T := TX2) B inX2 0 rfl rfl 10 (Nat.le_of_ble_eq_true rfl) fl_X2_43 rfl rfl dX2_falseCrosses_18 ?_
        refine s_iload_n B dX2_falseCrosses_21 rfl 2 rfl ?_
        refine s_ialdN B 10 0 rfl rfl dX2_falseCrosses_22 (by omega) (by decide) ?_
        refine s_iconst B dX2_falseCrosses_23 ic_m1 ?_
        refine s_ixor B dX2_falseCrosses_24 ?_
        refine s_iand B dX2_falseCrosses_25 ?_
        refine s_callSi B hsc (c_J6_bitCount_0f7a4 l D g ((cr k) &&& ((tr k) ^^^ (-1)))) (gw_S ml_X2_123 sm_yJ6_bitCount_0f7a4 ini_RJ6 co_yJ6_bitCount_0f7a4) hd_J6_bitCount_0f7a4 rfl rfl ⟨(Nat.le_of_ble_eq_true rfl), (Nat.le_of_ble_eq_true rfl)⟩ [] [0, 1, 2, 3, 4] rfl rfl rfl rfl rfl (Nat.le_of_ble_eq_true rfl) dX2_falseCrosses_26 (fun r u hpo => ?_)
        obtain ⟨rfl, rfl⟩ := hpo
        refine s_st (st' := [.int (mPop ((cr k) &&& ((tr k) ^^^ (-1)))), .int (mSumI (fun d => mPop (cr d &&& (tr d ^^^ (-1)))) k)]) rfl ?_
        refine s_ws (ws' := [(h 0, .inr (2, [.ref (h 1), .ref (h 2), .ref (h 3), .ref (h 4), .ref (h 5), .ref (h 6), .ref (h 7), .int (nI n), .ref (h 8), .ref (h 9), .ref (h 10), .ref (h 11), .int (nI td), .int z, .ref (h 12)])), (h 1, .inl (g 0, 8, .inl kd)), (h 2, .inl (g 0, 8, .inl ka)), (h 3, .inl (g 0, 8, .inl ho)), (h 4, .inl (g 0, 8, .inl fa)), (h 5, .inl (g 0, 8, .inl si)), (h 6, .inl (g 0, 8, .inl kn)), (h 7, .inl (g 0, 8, .inl aw)), (h 8, .inl (g 0, 40, .inl ev)), (h 9, .inl (g 0, 40, .inl cr)), (h 10, .inl (g 0, 40, .inl tr)), (h 11, .inl (g 0, 4, .inl lw)), (h 12, .inr (0, [.int (q 0), .int (q 1), .int (q 2), .int (q 3), .int (q 4), .int (q 5), .int (q 6), .int (q 7), .int (q 8)]))]) rfl ?_
        refine s_iadd B dX2_falseCrosses_29 ?_
        refine s_istore_n (lv' := [(1, _), (0, _), (2, _)]) B dX2_falseCrosses_30 rfl (Nat.le_of_ble_eq_true rfl) rfl ?_
        refine s_iinc (lv' := [(2, _), (1, _), (0, _)]) (k := 2) B dX2_falseCrosses_31 rfl (ii_n _) (Nat.le_of_ble_eq_true rfl) rfl ?_
        refine s_goto (tgt := 4) B dX2_falseCrosses_34 rfl ?_
        refine s_lv (lv' := [(0, _), (1, _), (2, _)]) [2, 1, 0] rfl ?_
        refine s_lve (lv' := [(0, .ref (h 0)), (1, .int (mSumI (fun d => mPop (cr d &&& (tr d ^^^ (-1)))) (k + 1))), (2, .int (nI (k + 1)))]) (by rfl) ?_
        exact ih (k + 1) (by omega) (by omega)
  refine s_iconst B dX2_falseCrosses_0 ic_0 ?_
  refine s_istore_n (lv' := [(1, _), (0, _)]) B dX2_falseCrosses_1 rfl (Nat.le_of_ble_eq_true rfl) rfl ?_
  refine s_iconst B dX2_falseCrosses_2 ic_0 ?_
  refine s_istore_n (lv' := [(2, _), (1, _), (0, _)]) B dX2_falseCrosses_3 rfl (Nat.le_of_ble_eq_true rfl) rfl ?_
  refine s_lv (lv' := [(0, _), (1, _), (2, _)]) [2, 1, 0] rfl ?_
  refine s_lve (lv' := [(0, .ref (h 0)), (1, .int (mSumI (fun d => mPop (cr d &&& (tr d ^^^ (-1)))) 0)), (2, .int (nI 0))]) (by rfl) ?_
  exact L4 (40 + 1) 0 (by omega) (by omega)
def rmX2_lostCrosses : Room := { frames := 1, cells := 0, slots := 0, locals := 20 }
theorem hd_X2_lostCrosses : yX2_lostCrosses.cls = RX2 ∧ yX2_lostCrosses.cls ≠ "java/lang/invoke/MethodHandle" ∧ yX2_lostCrosses.cls ≠ "java/lang/invoke/VarHandle" ∧ (parseMethodDescriptor yX2_lostCrosses.desc).map (fun d => d.parameters.length) = some 0 := by decide +kernel
set_option maxHeartbeats 4000000 in
set_option maxRecDepth 100000 in
theorem c_X2_lostCrosses (l : Launch) (D : va_G) (g : Nat → ClassId) (h : Nat → Nat) (kd ka ho fa si kn aw : Nat → Int32) (n : Nat) (ev cr tr lw : Nat → Int32) (td : Nat) (z : Int32) (q : Nat → Int32) : Ci l yX2_lostCrosses (WW yX2_lostCrosses cX2_lostCrosses 3 (some FieldType.int)) rmX2_lostCrosses D vwCl (TY g) [.ref (h 0)] (SchC g h kd ka ho fa si kn aw n ev cr tr lw td z q) (fun r u => r = mSumI (fun d => mPop (tr d &&& (cr d ^^^ (-1)))) 40 ∧ u = SchC g h kd ka ho fa si kn aw n ev cr tr lw td z q) := by
  refine ci_in (by decide) (Nat.le_of_ble_eq_true rfl) (a0 := [h 0, h 1, h 2, h 3, h 4, h 5, h 6, h 7, h 8, h 9, h 10, h 11, h 12]) rfl (fun p e s m args below meth c A Q hQ B hr hsc => ?_)
  have L4 : ∀ (jj : Nat) (k : Nat), 40 - k < jj → (k ≤ 40) → Sx p l e rmX2_lostCrosses s m args below meth c D vwCl A 3 Q 4 [(0, .ref (h 0)), (1, .int (mSumI (fun d => mPop (tr d &&& (cr d ^^^ (-1)))) k)), (2, .int (nI k))] [] [(h 0, .inr (2, [.ref (h 1), .ref (h 2), .ref (h 3), .ref (h 4), .ref (h 5), .ref (h 6), .ref (h 7), .int (nI n), .ref (h 8), .ref (h 9), .ref (h 10), .ref (h 11), .int (nI td), .int z, .ref (h 12)])), (h 1, .inl (g 0, 8, .inl kd)), (h 2, .inl (g 0, 8, .inl ka)), (h 3, .inl (g 0, 8, .inl ho)), (h 4, .inl (g 0, 8, .inl fa)), (h 5, .inl (g 0, 8, .inl si)), (h 6, .inl (g 0, 8, .inl kn)), (h 7, .inl (g 0, 8, .inl aw)), (h 8, .inl (g 0, 40, .inl ev)), (h 9, .inl (g 0, 40, .inl cr)), (h 10, .inl (g 0, 40, .inl tr)), (h 11, .inl (g 0, 4, .inl lw)), (h 12, .inr (0, [.int (q 0), .int (q 1), .int (q 2), .int (q 3), .int (q 4), .int (q 5), .int (q 6), .int (q 7), .int (q 8)]))] := by
    intro jj
    induction jj with
    | zero => intro k hj; exact absurd hj (Nat.not_lt_zero _)
    | succ jj ih =>
      intro k hj hk
      refine s_iload_n B dX2_lostCrosses_4 rfl 2 rfl ?_
      refine s_bipush B dX2_lostCrosses_5 bp_40 ?_
      refine s_icmp_ge (tgt := 37) B dX2_lostCrosses_7 rfl (fun h7 => ?_) (fun h7 => ?_)
      · replace h7 : 40 ≤ k := (nI_leI (a := 40) (b := k) (by omega) (by omega)).mp h7
        refine s_iload_n B dX2_lostCrosses_37 rfl 1 rfl ?_
        refine s_iret B hQ hr dX2_lostCrosses_38 rfl ?_
        have e9 : k = 40 := by omega
        subst e9
        exact ⟨rfl, rfl⟩
      · replace h7 : ¬ 40 ≤ k := fun hh => h7 ((nI_leI (a := 40) (b := k) (by omega) (by omega)).mpr hh)
        refine s_iload_n B dX2_lostCrosses_10 rfl 1 rfl ?_
        refine s_aload_n B dX2_lostCrosses_11 rfl 0 rfl ?_
        refine s_get (T := TX2) B inX2 0 rfl rfl 10 (Nat.le_of_ble_eq_true rfl) fl_X2_43 rfl rfl dX2_lostCrosses_12 ?_
        refine s_iload_n B dX2_lostCrosses_15 rfl 2 rfl ?_
        refine s_ialdN B 10 0 rfl rfl dX2_lostCrosses_16 (by omega) (by decide) ?_
        refine s_aload_n B dX2_lostCrosses_17 rfl 0 rfl ?_
        refine s_get (T := TX2) B inX2 0 rfl rfl 9 (Nat.le_of_ble_eq_true rfl) fl_X2_40 rfl rfl dX2_lostCrosses_18 ?_
        refine s_iload_n B dX2_lostCrosses_21 rfl 2 rfl ?_
        refine s_ialdN B 9 0 rfl rfl dX2_lostCrosses_22 (by omega) (by decide) ?_
        refine s_iconst B dX2_lostCrosses_23 ic_m1 ?_
        refine s_ixor B dX2_lostCrosses_24 ?_
        refine s_iand B dX2_lostCrosses_25 ?_
        refine s_callSi B hsc (c_J6_bitCount_0f7a4 l D g ((tr k) &&& ((cr k) ^^^ (-1)))) (gw_S ml_X2_123 sm_yJ6_bitCount_0f7a4 ini_RJ6 co_yJ6_bitCount_0f7a4) hd_J6_bitCount_0f7a4 rfl rfl ⟨(Nat.le_of_ble_eq_true rfl), (Nat.le_of_ble_eq_true rfl)⟩ [] [0, 1, 2, 3, 4] rfl rfl rfl rfl rfl (Nat.le_of_ble_eq_true rfl) dX2_lostCrosses_26 (fun r u hpo => ?_)
        obtain ⟨rfl, rfl⟩ := hpo
        refine s_st (st' := [.int (mPop ((tr k) &&& ((cr k) ^^^ (-1)))), .int (mSumI (fun d => mPop (tr d &&& (cr d ^^^ (-1)))) k)]) rfl ?_
        refine s_ws (ws' := [(h 0, .inr (2, [.ref (h 1), .ref (h 2), .ref (h 3), .ref (h 4), .ref (h 5), .ref (h 6), .ref (h 7), .int (nI n), .ref (h 8), .ref (h 9), .ref (h 10), .ref (h 11), .int (nI td), .int z, .ref (h 12)])), (h 1, .inl (g 0, 8, .inl kd)), (h 2, .inl (g 0, 8, .inl ka)), (h 3, .inl (g 0, 8, .inl ho)), (h 4, .inl (g 0, 8, .inl fa)), (h 5, .inl (g 0, 8, .inl si)), (h 6, .inl (g 0, 8, .inl kn)), (h 7, .inl (g 0, 8, .inl aw)), (h 8, .inl (g 0, 40, .inl ev)), (h 9, .inl (g 0, 40, .inl cr)), (h 10, .inl (g 0, 40, .inl tr)), (h 11, .inl (g 0, 4, .inl lw)), (h 12, .inr (0, [.int (q 0), .int (q 1), .int (q 2), .int (q 3), .int (q 4), .int (q 5), .int (q 6), .int (q 7), .int (q 8)]))]) rfl ?_
        refine s_iadd B dX2_lostCrosses_29 ?_
        refine s_istore_n (lv' := [(1, _), (0, _), (2, _)]) B dX2_lostCrosses_30 rfl (Nat.le_of_ble_eq_true rfl) rfl ?_
        refine s_iinc (lv' := [(2, _), (1, _), (0, _)]) (k := 2) B dX2_lostCrosses_31 rfl (ii_n _) (Nat.le_of_ble_eq_true rfl) rfl ?_
        refine s_goto (tgt := 4) B dX2_lostCrosses_34 rfl ?_
        refine s_lv (lv' := [(0, _), (1, _), (2, _)]) [2, 1, 0] rfl ?_
        refine s_lve (lv' := [(0, .ref (h 0)), (1, .int (mSumI (fun d => mPop (tr d &&& (cr d ^^^ (-1)))) (k + 1))), (2, .int (nI (k + 1)))]) (by rfl) ?_
        exact ih (k + 1) (by omega) (by omega)
  refine s_iconst B dX2_lostCrosses_0 ic_0 ?_
  refine s_istore_n (lv' := [(1, _), (0, _)]) B dX2_lostCrosses_1 rfl (Nat.le_of_ble_eq_true rfl) rfl ?_
  refine s_iconst B dX2_lostCrosses_2 ic_0 ?_
  refine s_istore_n (lv' := [(2, _), (1, _), (0, _)]) B dX2_lostCrosses_3 rfl (Nat.le_of_ble_eq_true rfl) rfl ?_
  refine s_lv (lv' := [(0, _), (1, _), (2, _)]) [2, 1, 0] rfl ?_
  refine s_lve (lv' := [(0, .ref (h 0)), (1, .int (mSumI (fun d => mPop (tr d &&& (cr d ^^^ (-1)))) 0)), (2, .int (nI 0))]) (by rfl) ?_
  exact L4 (40 + 1) 0 (by omega) (by omega)
def rmX2_longestWithoutCross : Room := { frames := 1, cells := 0, slots := 0, locals := 60 }
theorem hd_X2_longestWithoutCross : yX2_longestWithoutCross.cls = RX2 ∧ yX2_longestWithoutCross.cls ≠ "java/lang/invoke/MethodHandle" ∧ yX2_longestWithoutCross.cls ≠ "java/lang/invoke/VarHandle" ∧ (parseMethodDescriptor yX2_longestWithoutCross.desc).map (fun d => d.parameters.length) = some 1 := by decide +kernel
set_option maxHeartbeats 4000000 in
set_option maxRecDepth 100000 in
theorem c_X2_longestWithoutCross (l : Launch) (D : va_G) (g : Nat → ClassId) (h : Nat → Nat) (kd ka ho fa si kn aw : Nat → Int32) (n : Nat) (ev cr tr lw : Nat → Int32) (td : Nat) (z : Int32) (q : Nat → Int32) (c0 : Int32) (htd : td ≤ 40) : Ci l yX2_longestWithoutCross (WW yX2_longestWithoutCross cX2_longestWithoutCross 5 (some FieldType.int)) rmX2_longestWithoutCross D vwCl (TY g) [.ref (h 0), .int c0] (SchC g h kd ka ho fa si kn aw n ev cr tr lw td z q) (fun r u => r = mMost (fun d => mBitI (cr d) c0) td ∧ u = SchC g h kd ka ho fa si kn aw n ev cr tr lw td z q) := by
  refine ci_in (by decide) (Nat.le_of_ble_eq_true rfl) (a0 := [h 0, h 1, h 2, h 3, h 4, h 5, h 6, h 7, h 8, h 9, h 10, h 11, h 12]) rfl (fun p e s m args below meth c A Q hQ B hr hsc => ?_)
  have L7 : ∀ (jj : Nat) (k : Nat), td - k < jj → (k ≤ td) → Sx p l e rmX2_longestWithoutCross s m args below meth c D vwCl A 5 Q 7 [(0, .ref (h 0)), (1, .int c0), (2, .int (mMost (fun d => mBitI (cr d) c0) k)), (3, .int (mRun (fun d => mBitI (cr d) c0) k)), (4, .int (nI k))] [] [(h 0, .inr (2, [.ref (h 1), .ref (h 2), .ref (h 3), .ref (h 4), .ref (h 5), .ref (h 6), .ref (h 7), .int (nI n), .ref (h 8), .ref (h 9), .ref (h 10), .ref (h 11), .int (nI td), .int z, .ref (h 12)])), (h 1, .inl (g 0, 8, .inl kd)), (h 2, .inl (g 0, 8, .inl ka)), (h 3, .inl (g 0, 8, .inl ho)), (h 4, .inl (g 0, 8, .inl fa)), (h 5, .inl (g 0, 8, .inl si)), (h 6, .inl (g 0, 8, .inl kn)), (h 7, .inl (g 0, 8, .inl aw)), (h 8, .inl (g 0, 40, .inl ev)), (h 9, .inl (g 0, 40, .inl cr)), (h 10, .inl (g 0, 40, .inl tr)), (h 11, .inl (g 0, 4, .inl lw)), (h 12, .inr (0, [.int (q 0), .int (q 1), .int (q 2), .int (q 3), .int (q 4), .int (q 5), .int (q 6), .int (q 7), .int (q 8)]))] := by
    intro jj
    induction jj with
    | zero => intro k hj; exact absurd hj (Nat.not_lt_zero _)
    | succ jj ih =>
      intro k hj hk
      have M40 : (¬ td ≤ k) → (¬ 40 ≤ k) → (((¬ (mBitI (cr k) c0 = true))) ∨ ((mBitI (cr k) c0 = true))) → Sx p l e rmX2_longestWithoutCross s m args below meth c D vwCl A 5 Q 40 [(0, .ref (h 0)), (1, .int c0), (2, .int (mMost (fun d => mBitI (cr d) c0) k)), (3, .int (mRun (fun d => mBitI (cr d) c0) k)), (4, .int (nI k))] [.int (if ¬ (mBitI (cr k) c0 = true) then (mRun (fun d => mBitI (cr d) c0) k) + 1 else 0)] [(h 0, .inr (2, [.ref (h 1), .ref (h 2), .ref (h 3), .ref (h 4), .ref (h 5), .ref (h 6), .ref (h 7), .int (nI n), .ref (h 8), .ref (h 9), .ref (h 10), .ref (h 11), .int (nI td), .int z, .ref (h 12)])), (h 1, .inl (g 0, 8, .inl kd)), (h 2, .inl (g 0, 8, .inl ka)), (h 3, .inl (g 0, 8, .inl ho)), (h 4, .inl (g 0, 8, .inl fa)), (h 5, .inl (g 0, 8, .inl si)), (h 6, .inl (g 0, 8, .inl kn)), (h 7, .inl (g 0, 8, .inl aw)), (h 8, .inl (g 0, 40, .inl ev)), (h 9, .inl (g 0, 40, .inl cr)), (h 10, .inl (g 0, 40, .inl tr)), (h 11, .inl (g 0, 4, .inl lw)), (h 12, .inr (0, [.int (q 0), .int (q 1), .int (q 2), .int (q 3), .int (q 4), .int (q 5), .int (q 6), .int (q 7), .int (q 8)]))] := by
        intro hm40_0 hm40_1 hm40_2
        refine s_istore_n (lv' := [(3, _), (0, _), (1, _), (2, _), (4, _)]) B dX2_longestWithoutCross_40 rfl (Nat.le_of_ble_eq_true rfl) rfl ?_
        refine s_iload_n B dX2_longestWithoutCross_41 rfl 3 rfl ?_
        refine s_iload_n B dX2_longestWithoutCross_42 rfl 0 rfl ?_
        refine s_max B ml_X2_109 (Nat.le_of_ble_eq_true rfl) (Nat.le_of_ble_eq_true rfl) dX2_longestWithoutCross_43 ?_
        refine s_istore_n (lv' := [(2, _), (3, _), (0, _), (1, _), (4, _)]) B dX2_longestWithoutCross_46 rfl (Nat.le_of_ble_eq_true rfl) rfl ?_
        refine s_iinc (lv' := [(4, _), (2, _), (3, _), (0, _), (1, _)]) (k := 4) B dX2_longestWithoutCross_47 rfl (ii_n _) (Nat.le_of_ble_eq_true rfl) rfl ?_
        refine s_goto (tgt := 7) B dX2_longestWithoutCross_50 rfl ?_
        refine s_lv (lv' := [(0, _), (1, _), (2, _), (3, _), (4, _)]) [3, 4, 1, 2, 0] rfl ?_
        refine s_lve (lv' := [(0, .ref (h 0)), (1, .int c0), (2, .int (mMost (fun d => mBitI (cr d) c0) (k + 1))), (3, .int (mRun (fun d => mBitI (cr d) c0) (k + 1))), (4, .int (nI (k + 1)))]) (by clear hQ B hr hsc; grind [mMost, mRun]) ?_
        exact ih (k + 1) (by omega) (by omega)
      refine s_iload B dX2_longestWithoutCross_7 4 rfl ?_
      refine s_aload_n B dX2_longestWithoutCross_9 rfl 0 rfl ?_
      refine s_get (T := TX2) B inX2 0 rfl rfl 12 (Nat.le_of_ble_eq_true rfl) fl_X2_49 rfl rfl dX2_longestWithoutCross_10 ?_
      refine s_icmp_ge (tgt := 53) B dX2_longestWithoutCross_13 rfl (fun h13 => ?_) (fun h13 => ?_)
      · replace h13 : td ≤ k := (nI_leI (a := td) (b := k) (by omega) (by omega)).mp h13
        refine s_iload_n B dX2_longestWithoutCross_53 rfl 2 rfl ?_
        refine s_iret B hQ hr dX2_longestWithoutCross_54 rfl ?_
        have e9 : k = td := by omega
        subst e9
        exact ⟨rfl, rfl⟩
      · replace h13 : ¬ td ≤ k := fun hh => h13 ((nI_leI (a := td) (b := k) (by omega) (by omega)).mpr hh)
        refine s_iload B dX2_longestWithoutCross_16 4 rfl ?_
        refine s_bipush B dX2_longestWithoutCross_18 bp_40 ?_
        refine s_icmp_ge (tgt := 53) B dX2_longestWithoutCross_20 rfl (fun h20 => ?_) (fun h20 => ?_)
        · replace h20 : 40 ≤ k := (nI_leI (a := 40) (b := k) (by omega) (by omega)).mp h20
          refine s_iload_n B dX2_longestWithoutCross_53 rfl 2 rfl ?_
          refine s_iret B hQ hr dX2_longestWithoutCross_54 rfl ?_
          have e9 : k = td := by omega
          subst e9
          exact ⟨rfl, rfl⟩
        · replace h20 : ¬ 40 ≤ k := fun hh => h20 ((nI_leI (a := 40) (b := k) (by omega) (by omega)).mpr hh)
          refine s_aload_n B dX2_longestWithoutCross_23 rfl 0 rfl ?_
          refine s_iload B dX2_longestWithoutCross_24 4 rfl ?_
          refine s_iload_n B dX2_longestWithoutCross_26 rfl 1 rfl ?_
          refine s_callVi B hsc (c_X2_hasCross l D g h kd ka ho fa si kn aw n ev cr tr lw td z q k c0 (by omega)) (gw_V ml_X2_129 im_yX2_hasCross se_yX2_hasCross ini_RX2 co_yX2_hasCross) hd_X2_hasCross rfl rfl ⟨(Nat.le_of_ble_eq_true rfl), (Nat.le_of_ble_eq_true rfl)⟩ [0, 1, 2, 3, 4, 5, 6, 7, 8, 9, 10, 11, 12] [0, 1, 2, 3, 4] rfl rfl rfl (ci := 2) (q0 := 0) rfl rfl rfl rfl rfl (Nat.le_of_ble_eq_true rfl) dX2_longestWithoutCross_27 (fun r u hpo => ?_)
          obtain ⟨rfl, rfl⟩ := hpo
          refine s_st (st' := [.int (if mBitI (cr k) c0 = true then 1 else 0)]) rfl ?_
          refine s_ws (ws' := [(h 0, .inr (2, [.ref (h 1), .ref (h 2), .ref (h 3), .ref (h 4), .ref (h 5), .ref (h 6), .ref (h 7), .int (nI n), .ref (h 8), .ref (h 9), .ref (h 10), .ref (h 11), .int (nI td), .int z, .ref (h 12)])), (h 1, .inl (g 0, 8, .inl kd)), (h 2, .inl (g 0, 8, .inl ka)), (h 3, .inl (g 0, 8, .inl ho)), (h 4, .inl (g 0, 8, .inl fa)), (h 5, .inl (g 0, 8, .inl si)), (h 6, .inl (g 0, 8, .inl kn)), (h 7, .inl (g 0, 8, .inl aw)), (h 8, .inl (g 0, 40, .inl ev)), (h 9, .inl (g 0, 40, .inl cr)), (h 10, .inl (g 0, 40, .inl tr)), (h 11, .inl (g 0, 4, .inl lw)), (h 12, .inr (0, [.int (q 0), .int (q 1), .int (q 2), .int (q 3), .int (q 4), .int (q 5), .int (q 6), .int (q 7), .int (q 8)]))]) rfl ?_
          refine s_bif_eq (tgt := 37) B dX2_longestWithoutCross_30 rfl (fun h30 => ?_) (fun h30 => ?_)
          · refine s_iload_n B dX2_longestWithoutCross_37 rfl 3 rfl ?_
            refine s_iconst B dX2_longestWithoutCross_38 ic_1 ?_
            refine s_iadd B dX2_longestWithoutCross_39 ?_
            refine s_lv (lv' := [(0, _), (1, _), (2, _), (3, _), (4, _)]) [0, 1, 2, 3, 4] rfl ?_
            refine s_st (st' := [.int (if ¬ (mBitI (cr k) c0 = true) then (mRun (fun d => mBitI (cr d) c0) k) + 1 else 0)]) (by first | (simp only [if_pos h13, if_neg h13, if_pos h20, if_neg h20, if_pos h30, if_neg h30]; done) | (clear hQ B hr hsc; grind)) ?_
            exact M40 h13 h20 (by clear hQ B hr hsc; grind)
          · refine s_iconst B dX2_longestWithoutCross_33 ic_0 ?_
            refine s_goto (tgt := 40) B dX2_longestWithoutCross_34 rfl ?_
            refine s_lv (lv' := [(0, _), (1, _), (2, _), (3, _), (4, _)]) [0, 1, 2, 3, 4] rfl ?_
            refine s_st (st' := [.int (if ¬ (mBitI (cr k) c0 = true) then (mRun (fun d => mBitI (cr d) c0) k) + 1 else 0)]) (by first | (simp only [if_pos h13, if_neg h13, if_pos h20, if_neg h20, if_pos h30]; done) | (clear hQ B hr hsc; grind)) ?_
            exact M40 h13 h20 (by clear hQ B hr hsc; grind)
  refine s_iconst B dX2_longestWithoutCross_0 ic_0 ?_
  refine s_istore_n (lv' := [(2, _), (0, _), (1, _)]) B dX2_longestWithoutCross_1 rfl (Nat.le_of_ble_eq_true rfl) rfl ?_
  refine s_iconst B dX2_longestWithoutCross_2 ic_0 ?_
  refine s_istore_n (lv' := [(3, _), (2, _), (0, _), (1, _)]) B dX2_longestWithoutCross_3 rfl (Nat.le_of_ble_eq_true rfl) rfl ?_
  refine s_iconst B dX2_longestWithoutCross_4 ic_0 ?_
  refine s_istore (lv' := [(4, _), (3, _), (2, _), (0, _), (1, _)]) B dX2_longestWithoutCross_5 (Nat.le_of_ble_eq_true rfl) rfl ?_
  refine s_lv (lv' := [(0, _), (1, _), (2, _), (3, _), (4, _)]) [3, 4, 2, 1, 0] rfl ?_
  refine s_lve (lv' := [(0, .ref (h 0)), (1, .int c0), (2, .int (mMost (fun d => mBitI (cr d) c0) 0)), (3, .int (mRun (fun d => mBitI (cr d) c0) 0)), (4, .int (nI 0))]) (by rfl) ?_
  exact L7 (td + 1) 0 (by omega) (by omega)
def rmX2_copyFrom : Room := { frames := 1, cells := 0, slots := 0, locals := 60 }
theorem hd_X2_copyFrom : yX2_copyFrom.cls = RX2 ∧ yX2_copyFrom.cls ≠ "java/lang/invoke/MethodHandle" ∧ yX2_copyFrom.cls ≠ "java/lang/invoke/VarHandle" ∧ (parseMethodDescriptor yX2_copyFrom.desc).map (fun d => d.parameters.length) = some 1 := by decide +kernel
set_option maxHeartbeats 4000000 in
set_option maxRecDepth 100000 in
theorem c_X2_copyFrom (l : Launch) (D : va_G) (g : Nat → ClassId) (h h2 : Nat → Nat) (kd ka ho fa si kn aw : Nat → Int32) (n : Nat) (ev cr tr lw : Nat → Int32) (td : Nat) (z : Int32) (q : Nat → Int32) (kd2 ka2 ho2 fa2 si2 kn2 aw2 : Nat → Int32) (n2 : Nat) (ev2 cr2 tr2 lw2 : Nat → Int32) (td2 : Nat) (z2 : Int32) (q2 : Nat → Int32) : Cv l yX2_copyFrom (WW yX2_copyFrom cX2_copyFrom 2 none) rmX2_copyFrom D vwCl (TY g) [.ref (h 0), .ref (h2 0)] (SchC g h kd ka ho fa si kn aw n ev cr tr lw td z q ++ SchC g h2 kd2 ka2 ho2 fa2 si2 kn2 aw2 n2 ev2 cr2 tr2 lw2 td2 z2 q2) (fun u => u = SchC g h kd2 ka2 ho2 fa2 si2 kn2 aw2 n2 ev2 cr2 tr2 lw2 td2 z2 q ++ SchC g h2 kd2 ka2 ho2 fa2 si2 kn2 aw2 n2 ev2 cr2 tr2 lw2 td2 z2 q2) := by
  refine cv_in (by decide) (Nat.le_of_ble_eq_true rfl) (a0 := [h 0, h 1, h 2, h 3, h 4, h 5, h 6, h 7, h 8, h 9, h 10, h 11, h 12, h2 0, h2 1, h2 2, h2 3, h2 4, h2 5, h2 6, h2 7, h2 8, h2 9, h2 10, h2 11, h2 12]) rfl (fun p e s m args below meth c A Q hQ B hr hsc => ?_)
  refine s_aload_n B dX2_copyFrom_0 rfl 1 rfl ?_
  refine s_get (T := TX2) B inX2 13 rfl rfl 0 (Nat.le_of_ble_eq_true rfl) fl_X2_9 rfl rfl dX2_copyFrom_1 ?_
  refine s_iconst B dX2_copyFrom_4 ic_0 ?_
  refine s_aload_n B dX2_copyFrom_5 rfl 0 rfl ?_
  refine s_get (T := TX2) B inX2 0 rfl rfl 0 (Nat.le_of_ble_eq_true rfl) fl_X2_9 rfl rfl dX2_copyFrom_6 ?_
  refine s_iconst B dX2_copyFrom_9 ic_0 ?_
  refine s_bipush B dX2_copyFrom_10 bp_8 ?_
  refine s_copyA (n := 8) (ws' := [_, _, _, _, _, _, _, _, _, _, _, _, _, _, _, _, _, _, _, _, _, _, _, _, _, _]) B 14 1 0 ml_X2_65 nt_arraycopy sm_arraycopy ini_RJ10 rfl rfl rfl rfl (by decide) (Nat.le_of_ble_eq_true rfl) (Nat.le_of_ble_eq_true rfl) dX2_copyFrom_12 rfl ?_
  refine s_aload_n B dX2_copyFrom_15 rfl 1 rfl ?_
  refine s_get (T := TX2) B inX2 13 rfl rfl 1 (Nat.le_of_ble_eq_true rfl) fl_X2_15 rfl rfl dX2_copyFrom_16 ?_
  refine s_iconst B dX2_copyFrom_19 ic_0 ?_
  refine s_aload_n B dX2_copyFrom_20 rfl 0 rfl ?_
  refine s_get (T := TX2) B inX2 0 rfl rfl 1 (Nat.le_of_ble_eq_true rfl) fl_X2_15 rfl rfl dX2_copyFrom_21 ?_
  refine s_iconst B dX2_copyFrom_24 ic_0 ?_
  refine s_bipush B dX2_copyFrom_25 bp_8 ?_
  refine s_copyA (n := 8) (ws' := [_, _, _, _, _, _, _, _, _, _, _, _, _, _, _, _, _, _, _, _, _, _, _, _, _, _]) B 15 2 0 ml_X2_65 nt_arraycopy sm_arraycopy ini_RJ10 rfl rfl rfl rfl (by decide) (Nat.le_of_ble_eq_true rfl) (Nat.le_of_ble_eq_true rfl) dX2_copyFrom_27 rfl ?_
  refine s_aload_n B dX2_copyFrom_30 rfl 1 rfl ?_
  refine s_get (T := TX2) B inX2 13 rfl rfl 2 (Nat.le_of_ble_eq_true rfl) fl_X2_18 rfl rfl dX2_copyFrom_31 ?_
  refine s_iconst B dX2_copyFrom_34 ic_0 ?_
  refine s_aload_n B dX2_copyFrom_35 rfl 0 rfl ?_
  refine s_get (T := TX2) B inX2 0 rfl rfl 2 (Nat.le_of_ble_eq_true rfl) fl_X2_18 rfl rfl dX2_copyFrom_36 ?_
  refine s_iconst B dX2_copyFrom_39 ic_0 ?_
  refine s_bipush B dX2_copyFrom_40 bp_8 ?_
  refine s_copyA (n := 8) (ws' := [_, _, _, _, _, _, _, _, _, _, _, _, _, _, _, _, _, _, _, _, _, _, _, _, _, _]) B 16 3 0 ml_X2_65 nt_arraycopy sm_arraycopy ini_RJ10 rfl rfl rfl rfl (by decide) (Nat.le_of_ble_eq_true rfl) (Nat.le_of_ble_eq_true rfl) dX2_copyFrom_42 rfl ?_
  refine s_aload_n B dX2_copyFrom_45 rfl 1 rfl ?_
  refine s_get (T := TX2) B inX2 13 rfl rfl 3 (Nat.le_of_ble_eq_true rfl) fl_X2_21 rfl rfl dX2_copyFrom_46 ?_
  refine s_iconst B dX2_copyFrom_49 ic_0 ?_
  refine s_aload_n B dX2_copyFrom_50 rfl 0 rfl ?_
  refine s_get (T := TX2) B inX2 0 rfl rfl 3 (Nat.le_of_ble_eq_true rfl) fl_X2_21 rfl rfl dX2_copyFrom_51 ?_
  refine s_iconst B dX2_copyFrom_54 ic_0 ?_
  refine s_bipush B dX2_copyFrom_55 bp_8 ?_
  refine s_copyA (n := 8) (ws' := [_, _, _, _, _, _, _, _, _, _, _, _, _, _, _, _, _, _, _, _, _, _, _, _, _, _]) B 17 4 0 ml_X2_65 nt_arraycopy sm_arraycopy ini_RJ10 rfl rfl rfl rfl (by decide) (Nat.le_of_ble_eq_true rfl) (Nat.le_of_ble_eq_true rfl) dX2_copyFrom_57 rfl ?_
  refine s_aload_n B dX2_copyFrom_60 rfl 1 rfl ?_
  refine s_get (T := TX2) B inX2 13 rfl rfl 4 (Nat.le_of_ble_eq_true rfl) fl_X2_24 rfl rfl dX2_copyFrom_61 ?_
  refine s_iconst B dX2_copyFrom_64 ic_0 ?_
  refine s_aload_n B dX2_copyFrom_65 rfl 0 rfl ?_
  refine s_get (T := TX2) B inX2 0 rfl rfl 4 (Nat.le_of_ble_eq_true rfl) fl_X2_24 rfl rfl dX2_copyFrom_66 ?_
  refine s_iconst B dX2_copyFrom_69 ic_0 ?_
  refine s_bipush B dX2_copyFrom_70 bp_8 ?_
  refine s_copyA (n := 8) (ws' := [_, _, _, _, _, _, _, _, _, _, _, _, _, _, _, _, _, _, _, _, _, _, _, _, _, _]) B 18 5 0 ml_X2_65 nt_arraycopy sm_arraycopy ini_RJ10 rfl rfl rfl rfl (by decide) (Nat.le_of_ble_eq_true rfl) (Nat.le_of_ble_eq_true rfl) dX2_copyFrom_72 rfl ?_
  refine s_aload_n B dX2_copyFrom_75 rfl 1 rfl ?_
  refine s_get (T := TX2) B inX2 13 rfl rfl 5 (Nat.le_of_ble_eq_true rfl) fl_X2_27 rfl rfl dX2_copyFrom_76 ?_
  refine s_iconst B dX2_copyFrom_79 ic_0 ?_
  refine s_aload_n B dX2_copyFrom_80 rfl 0 rfl ?_
  refine s_get (T := TX2) B inX2 0 rfl rfl 5 (Nat.le_of_ble_eq_true rfl) fl_X2_27 rfl rfl dX2_copyFrom_81 ?_
  refine s_iconst B dX2_copyFrom_84 ic_0 ?_
  refine s_bipush B dX2_copyFrom_85 bp_8 ?_
  refine s_copyA (n := 8) (ws' := [_, _, _, _, _, _, _, _, _, _, _, _, _, _, _, _, _, _, _, _, _, _, _, _, _, _]) B 19 6 0 ml_X2_65 nt_arraycopy sm_arraycopy ini_RJ10 rfl rfl rfl rfl (by decide) (Nat.le_of_ble_eq_true rfl) (Nat.le_of_ble_eq_true rfl) dX2_copyFrom_87 rfl ?_
  refine s_aload_n B dX2_copyFrom_90 rfl 1 rfl ?_
  refine s_get (T := TX2) B inX2 13 rfl rfl 6 (Nat.le_of_ble_eq_true rfl) fl_X2_30 rfl rfl dX2_copyFrom_91 ?_
  refine s_iconst B dX2_copyFrom_94 ic_0 ?_
  refine s_aload_n B dX2_copyFrom_95 rfl 0 rfl ?_
  refine s_get (T := TX2) B inX2 0 rfl rfl 6 (Nat.le_of_ble_eq_true rfl) fl_X2_30 rfl rfl dX2_copyFrom_96 ?_
  refine s_iconst B dX2_copyFrom_99 ic_0 ?_
  refine s_bipush B dX2_copyFrom_100 bp_8 ?_
  refine s_copyA (n := 8) (ws' := [_, _, _, _, _, _, _, _, _, _, _, _, _, _, _, _, _, _, _, _, _, _, _, _, _, _]) B 20 7 0 ml_X2_65 nt_arraycopy sm_arraycopy ini_RJ10 rfl rfl rfl rfl (by decide) (Nat.le_of_ble_eq_true rfl) (Nat.le_of_ble_eq_true rfl) dX2_copyFrom_102 rfl ?_
  refine s_aload_n B dX2_copyFrom_105 rfl 0 rfl ?_
  refine s_aload_n B dX2_copyFrom_106 rfl 1 rfl ?_
  refine s_get (T := TX2) B inX2 13 rfl rfl 7 (Nat.le_of_ble_eq_true rfl) fl_X2_33 rfl rfl dX2_copyFrom_107 ?_
  refine s_put (T := TX2) (ws' := [_, _, _, _, _, _, _, _, _, _, _, _, _, _, _, _, _, _, _, _, _, _, _, _, _, _]) B inX2 tyX2_ok nmX2 0 rfl rfl 7 (Nat.le_of_ble_eq_true rfl) fl_X2_33 rfl rfl rfl rfl (Nat.le_of_ble_eq_true rfl) rfl dX2_copyFrom_110 ?_
  refine s_aload_n B dX2_copyFrom_113 rfl 1 rfl ?_
  refine s_get (T := TX2) B inX2 13 rfl rfl 8 (Nat.le_of_ble_eq_true rfl) fl_X2_37 rfl rfl dX2_copyFrom_114 ?_
  refine s_iconst B dX2_copyFrom_117 ic_0 ?_
  refine s_aload_n B dX2_copyFrom_118 rfl 0 rfl ?_
  refine s_get (T := TX2) B inX2 0 rfl rfl 8 (Nat.le_of_ble_eq_true rfl) fl_X2_37 rfl rfl dX2_copyFrom_119 ?_
  refine s_iconst B dX2_copyFrom_122 ic_0 ?_
  refine s_bipush B dX2_copyFrom_123 bp_40 ?_
  refine s_copyA (n := 40) (ws' := [_, _, _, _, _, _, _, _, _, _, _, _, _, _, _, _, _, _, _, _, _, _, _, _, _, _]) B 21 8 0 ml_X2_65 nt_arraycopy sm_arraycopy ini_RJ10 rfl rfl rfl rfl (by decide) (Nat.le_of_ble_eq_true rfl) (Nat.le_of_ble_eq_true rfl) dX2_copyFrom_125 rfl ?_
  refine s_aload_n B dX2_copyFrom_128 rfl 1 rfl ?_
  refine s_get (T := TX2) B inX2 13 rfl rfl 9 (Nat.le_of_ble_eq_true rfl) fl_X2_40 rfl rfl dX2_copyFrom_129 ?_
  refine s_iconst B dX2_copyFrom_132 ic_0 ?_
  refine s_aload_n B dX2_copyFrom_133 rfl 0 rfl ?_
  refine s_get (T := TX2) B inX2 0 rfl rfl 9 (Nat.le_of_ble_eq_true rfl) fl_X2_40 rfl rfl dX2_copyFrom_134 ?_
  refine s_iconst B dX2_copyFrom_137 ic_0 ?_
  refine s_bipush B dX2_copyFrom_138 bp_40 ?_
  refine s_copyA (n := 40) (ws' := [_, _, _, _, _, _, _, _, _, _, _, _, _, _, _, _, _, _, _, _, _, _, _, _, _, _]) B 22 9 0 ml_X2_65 nt_arraycopy sm_arraycopy ini_RJ10 rfl rfl rfl rfl (by decide) (Nat.le_of_ble_eq_true rfl) (Nat.le_of_ble_eq_true rfl) dX2_copyFrom_140 rfl ?_
  refine s_aload_n B dX2_copyFrom_143 rfl 1 rfl ?_
  refine s_get (T := TX2) B inX2 13 rfl rfl 10 (Nat.le_of_ble_eq_true rfl) fl_X2_43 rfl rfl dX2_copyFrom_144 ?_
  refine s_iconst B dX2_copyFrom_147 ic_0 ?_
  refine s_aload_n B dX2_copyFrom_148 rfl 0 rfl ?_
  refine s_get (T := TX2) B inX2 0 rfl rfl 10 (Nat.le_of_ble_eq_true rfl) fl_X2_43 rfl rfl dX2_copyFrom_149 ?_
  refine s_iconst B dX2_copyFrom_152 ic_0 ?_
  refine s_bipush B dX2_copyFrom_153 bp_40 ?_
  refine s_copyA (n := 40) (ws' := [_, _, _, _, _, _, _, _, _, _, _, _, _, _, _, _, _, _, _, _, _, _, _, _, _, _]) B 23 10 0 ml_X2_65 nt_arraycopy sm_arraycopy ini_RJ10 rfl rfl rfl rfl (by decide) (Nat.le_of_ble_eq_true rfl) (Nat.le_of_ble_eq_true rfl) dX2_copyFrom_155 rfl ?_
  refine s_aload_n B dX2_copyFrom_158 rfl 1 rfl ?_
  refine s_get (T := TX2) B inX2 13 rfl rfl 11 (Nat.le_of_ble_eq_true rfl) fl_X2_46 rfl rfl dX2_copyFrom_159 ?_
  refine s_iconst B dX2_copyFrom_162 ic_0 ?_
  refine s_aload_n B dX2_copyFrom_163 rfl 0 rfl ?_
  refine s_get (T := TX2) B inX2 0 rfl rfl 11 (Nat.le_of_ble_eq_true rfl) fl_X2_46 rfl rfl dX2_copyFrom_164 ?_
  refine s_iconst B dX2_copyFrom_167 ic_0 ?_
  refine s_iconst B dX2_copyFrom_168 ic_4 ?_
  refine s_copyA (n := 4) (ws' := [_, _, _, _, _, _, _, _, _, _, _, _, _, _, _, _, _, _, _, _, _, _, _, _, _, _]) B 24 11 0 ml_X2_65 nt_arraycopy sm_arraycopy ini_RJ10 rfl rfl rfl rfl (by decide) (Nat.le_of_ble_eq_true rfl) (Nat.le_of_ble_eq_true rfl) dX2_copyFrom_169 rfl ?_
  refine s_aload_n B dX2_copyFrom_172 rfl 0 rfl ?_
  refine s_aload_n B dX2_copyFrom_173 rfl 1 rfl ?_
  refine s_get (T := TX2) B inX2 13 rfl rfl 12 (Nat.le_of_ble_eq_true rfl) fl_X2_49 rfl rfl dX2_copyFrom_174 ?_
  refine s_put (T := TX2) (ws' := [_, _, _, _, _, _, _, _, _, _, _, _, _, _, _, _, _, _, _, _, _, _, _, _, _, _]) B inX2 tyX2_ok nmX2 0 rfl rfl 12 (Nat.le_of_ble_eq_true rfl) fl_X2_49 rfl rfl rfl rfl (Nat.le_of_ble_eq_true rfl) rfl dX2_copyFrom_177 ?_
  refine s_aload_n B dX2_copyFrom_180 rfl 0 rfl ?_
  refine s_aload_n B dX2_copyFrom_181 rfl 1 rfl ?_
  refine s_get (T := TX2) B inX2 13 rfl rfl 13 (Nat.le_of_ble_eq_true rfl) fl_X2_52 rfl rfl dX2_copyFrom_182 ?_
  refine s_put (T := TX2) (ws' := [_, _, _, _, _, _, _, _, _, _, _, _, _, _, _, _, _, _, _, _, _, _, _, _, _, _]) B inX2 tyX2_ok nmX2 0 rfl rfl 13 (Nat.le_of_ble_eq_true rfl) fl_X2_52 rfl rfl rfl rfl (Nat.le_of_ble_eq_true rfl) rfl dX2_copyFrom_185 ?_
  refine s_vret B hQ hr dX2_copyFrom_188 rfl ?_
  rfl
