theorem and1 (x : Int32) : x &&& 1 = 0 ∨ x &&& 1 = 1 := by
  rw [pk_and x 1 (by decide)]
  rcases Nat.mod_two_eq_zero_or_one x.toBitVec.toNat with h | h
  · exact Or.inl (by rw [show x.toBitVec.toNat % 2 ^ 1 = 0 from h]; rfl)
  · exact Or.inr (by rw [show x.toBitVec.toNat % 2 ^ 1 = 1 from h]; rfl)
theorem and1_iff (x : Int32) : x &&& 1 = 1 ↔ ¬ x &&& 1 = 0 := by
  rcases and1 x with h | h <;> rw [h] <;> decide
def rmX9_catches : Room := { frames := 1, cells := 0, slots := 0, locals := 22 }
theorem hd_X9_catches : yX9_catches.cls = RX9 ∧ yX9_catches.cls ≠ "java/lang/invoke/MethodHandle" ∧ yX9_catches.cls ≠ "java/lang/invoke/VarHandle" ∧ (parseMethodDescriptor yX9_catches.desc).map (fun d => d.parameters.length) = some 2 := by decide +kernel
set_option maxHeartbeats 4000000 in
set_option maxRecDepth 100000 in
theorem c_X9_catches (l : Launch) (D : va_G) (g : Nat → ClassId) (b : Nat → Nat) (I : Nat → Int32) (W : Int64) (n p0 : Nat) (a_child : Nat → Int32) (a_laws : Nat → Int32) (k : Nat) (sk : Int32) (hn : n ≤ 8) (hk : k < n) : Ci l yX9_catches (WW yX9_catches cX9_catches 6 (some FieldType.boolean)) rmX9_catches D vwCl (TY g) [.ref (b 0), .int (nI k), .int sk] [(b 0, .inr (9, [.int (nI n), .ref (b 1), .ref (b 2), .int (nI p0), .ref (b 3), .ref (b 4), .ref (b 5), .ref (b 6), .ref (b 7), .ref (b 8), .int (I 10), .ref (b 9), .int (I 12), .int (I 13), .int (I 14), .int (I 15), .long W, .int (I 17), .int (I 18), .int (I 19), .int (I 20), .ref (b 10), .ref (b 11), .ref (b 12), .ref (b 13), .ref (b 14), .ref (b 15), .int (I 27), .int (I 28), .ref (b 16), .ref (b 17), .ref (b 18), .ref (b 19), .ref (b 20), .ref (b 21), .int (I 35), .int (I 36), .int (I 37), .ref (b 22), .int (I 39), .int (I 40), .int (I 41), .ref (b 23), .int (I 43), .ref (b 24)])), (b 1, .inl (g 0, 32, .inl a_child)), (b 6, .inl (g 0, 4, .inl a_laws))] (fun r u => r = (if mTouch (fun o => a_child (4 * o + 2)) a_laws sk n k then 1 else 0) ∧ u = [(b 0, .inr (9, [.int (nI n), .ref (b 1), .ref (b 2), .int (nI p0), .ref (b 3), .ref (b 4), .ref (b 5), .ref (b 6), .ref (b 7), .ref (b 8), .int (I 10), .ref (b 9), .int (I 12), .int (I 13), .int (I 14), .int (I 15), .long W, .int (I 17), .int (I 18), .int (I 19), .int (I 20), .ref (b 10), .ref (b 11), .ref (b 12), .ref (b 13), .ref (b 14), .ref (b 15), .int (I 27), .int (I 28), .ref (b 16), .ref (b 17), .ref (b 18), .ref (b 19), .ref (b 20), .ref (b 21), .int (I 35), .int (I 36), .int (I 37), .ref (b 22), .int (I 39), .int (I 40), .int (I 41), .ref (b 23), .int (I 43), .ref (b 24)])), (b 1, .inl (g 0, 32, .inl a_child)), (b 6, .inl (g 0, 4, .inl a_laws))]) := by
  refine ci_in (by decide) (Nat.le_of_ble_eq_true rfl) (a0 := [b 0, b 1, b 6]) rfl (fun p e s m args below meth c A Q hQ B hr hsc => ?_)
  have L8 : ∀ (jj : Nat) (o : Nat), n - o < jj → (o ≤ n) → Sx p l e rmX9_catches s m args below meth c D vwCl A 6 Q 8 [(0, .ref (b 0)), (1, .int (nI k)), (2, .int sk), (3, .int (nI (mCt (fun o => decide (¬ o = k) && mBit sk o && decide ((fun o => a_child (4 * o + 2)) o = (fun o => a_child (4 * o + 2)) k)) o))), (4, .int (nI (mCt (fun o => decide (¬ o = k) && mBit sk o) o))), (5, .int (nI o))] [] [(b 0, .inr (9, [.int (nI n), .ref (b 1), .ref (b 2), .int (nI p0), .ref (b 3), .ref (b 4), .ref (b 5), .ref (b 6), .ref (b 7), .ref (b 8), .int (I 10), .ref (b 9), .int (I 12), .int (I 13), .int (I 14), .int (I 15), .long W, .int (I 17), .int (I 18), .int (I 19), .int (I 20), .ref (b 10), .ref (b 11), .ref (b 12), .ref (b 13), .ref (b 14), .ref (b 15), .int (I 27), .int (I 28), .ref (b 16), .ref (b 17), .ref (b 18), .ref (b 19), .ref (b 20), .ref (b 21), .int (I 35), .int (I 36), .int (I 37), .ref (b 22), .int (I 39), .int (I 40), .int (I 41), .ref (b 23), .int (I 43), .ref (b 24)])), (b 1, .inl (g 0, 32, .inl a_child)), (b 6, .inl (g 0, 4, .inl a_laws))] := by
    intro jj
    induction jj with
    | zero => intro o hj; exact absurd hj (Nat.not_lt_zero _)
    | succ jj ih =>
      intro o hj hoo
      have M60 : (¬ n ≤ o) → Sx p l e rmX9_catches s m args below meth c D vwCl A 6 Q 60 [(0, .ref (b 0)), (1, .int (nI k)), (2, .int sk), (3, .int (if (o = k) ∨ ((¬ o = k) ∧ (¬ ((sk >>> ((nI o) &&& 31)) &&& 1) = 1)) then nI (mCt (fun o => decide (¬ o = k) && mBit sk o && decide ((fun o => a_child (4 * o + 2)) o = (fun o => a_child (4 * o + 2)) k)) o) else ((nI (mCt (fun o => decide (¬ o = k) && mBit sk o && decide ((fun o => a_child (4 * o + 2)) o = (fun o => a_child (4 * o + 2)) k)) o)) + (if (a_child (4 * o + 2)) = (a_child (4 * k + 2)) then 1 else 0)))), (4, .int (if (o = k) ∨ ((¬ o = k) ∧ (¬ ((sk >>> ((nI o) &&& 31)) &&& 1) = 1)) then nI (mCt (fun o => decide (¬ o = k) && mBit sk o) o) else (nI ((mCt (fun o => decide (¬ o = k) && mBit sk o) o) + 1)))), (5, .int (nI o))] [] [(b 0, .inr (9, [.int (nI n), .ref (b 1), .ref (b 2), .int (nI p0), .ref (b 3), .ref (b 4), .ref (b 5), .ref (b 6), .ref (b 7), .ref (b 8), .int (I 10), .ref (b 9), .int (I 12), .int (I 13), .int (I 14), .int (I 15), .long W, .int (I 17), .int (I 18), .int (I 19), .int (I 20), .ref (b 10), .ref (b 11), .ref (b 12), .ref (b 13), .ref (b 14), .ref (b 15), .int (I 27), .int (I 28), .ref (b 16), .ref (b 17), .ref (b 18), .ref (b 19), .ref (b 20), .ref (b 21), .int (I 35), .int (I 36), .int (I 37), .ref (b 22), .int (I 39), .int (I 40), .int (I 41), .ref (b 23), .int (I 43), .ref (b 24)])), (b 1, .inl (g 0, 32, .inl a_child)), (b 6, .inl (g 0, 4, .inl a_laws))] := by
        intro hm60_0
        refine s_iinc (lv' := [(5, _), (0, _), (1, _), (2, _), (3, _), (4, _)]) (k := 5) B dX9_catches_60 rfl (ii_n _) (Nat.le_of_ble_eq_true rfl) rfl ?_
        refine s_goto (tgt := 8) B dX9_catches_63 rfl ?_
        refine s_lv (lv' := [(0, _), (1, _), (2, _), (3, _), (4, _), (5, _)]) [1, 2, 3, 4, 5, 0] rfl ?_
        refine s_lve (lv' := [(0, .ref (b 0)), (1, .int (nI k)), (2, .int sk), (3, .int (nI (mCt (fun o => decide (¬ o = k) && mBit sk o && decide ((fun o => a_child (4 * o + 2)) o = (fun o => a_child (4 * o + 2)) k)) (o + 1)))), (4, .int (nI (mCt (fun o => decide (¬ o = k) && mBit sk o) (o + 1)))), (5, .int (nI (o + 1)))]) (by clear ih hQ B hr hsc; have e1 := nI_1 (mCt (fun o => decide (¬ o = k) && mBit sk o && decide ((fun o => a_child (4 * o + 2)) o = (fun o => a_child (4 * o + 2)) k)) o); have e2 : ∀ x : Int32, x + 0 = x := (fun x => Int32.add_zero x); have e3 := and1_iff (sk >>> (nI o &&& 31)); grind [mCt, mBitI]) ?_
        exact ih (o + 1) (by omega) (by omega)
      have M55 : (¬ n ≤ o) → (¬ o = k) → (((sk >>> ((nI o) &&& 31)) &&& 1) = 1) → Sx p l e rmX9_catches s m args below meth c D vwCl A 6 Q 55 [(0, .ref (b 0)), (1, .int (nI k)), (2, .int sk), (3, .int (nI (mCt (fun o => decide (¬ o = k) && mBit sk o && decide ((fun o => a_child (4 * o + 2)) o = (fun o => a_child (4 * o + 2)) k)) o))), (4, .int (nI (mCt (fun o => decide (¬ o = k) && mBit sk o) o))), (5, .int (nI o))] [.int (if (a_child (4 * o + 2)) = (a_child (4 * k + 2)) then 1 else 0), .int (nI (mCt (fun o => decide (¬ o = k) && mBit sk o && decide ((fun o => a_child (4 * o + 2)) o = (fun o => a_child (4 * o + 2)) k)) o))] [(b 0, .inr (9, [.int (nI n), .ref (b 1), .ref (b 2), .int (nI p0), .ref (b 3), .ref (b 4), .ref (b 5), .ref (b 6), .ref (b 7), .ref (b 8), .int (I 10), .ref (b 9), .int (I 12), .int (I 13), .int (I 14), .int (I 15), .long W, .int (I 17), .int (I 18), .int (I 19), .int (I 20), .ref (b 10), .ref (b 11), .ref (b 12), .ref (b 13), .ref (b 14), .ref (b 15), .int (I 27), .int (I 28), .ref (b 16), .ref (b 17), .ref (b 18), .ref (b 19), .ref (b 20), .ref (b 21), .int (I 35), .int (I 36), .int (I 37), .ref (b 22), .int (I 39), .int (I 40), .int (I 41), .ref (b 23), .int (I 43), .ref (b 24)])), (b 1, .inl (g 0, 32, .inl a_child)), (b 6, .inl (g 0, 4, .inl a_laws))] := by
        intro hm55_0 hm55_1 hm55_2
        refine s_iadd B dX9_catches_55 ?_
        refine s_istore_n (lv' := [(3, _), (0, _), (1, _), (2, _), (4, _), (5, _)]) B dX9_catches_56 rfl (Nat.le_of_ble_eq_true rfl) rfl ?_
        refine s_iinc (lv' := [(4, _), (3, _), (0, _), (1, _), (2, _), (5, _)]) (k := 4) B dX9_catches_57 rfl (ii_n _) (Nat.le_of_ble_eq_true rfl) rfl ?_
        refine s_lv (lv' := [(0, _), (1, _), (2, _), (3, _), (4, _), (5, _)]) [2, 3, 4, 1, 0, 5] rfl ?_
        refine s_lve (lv' := [(0, .ref (b 0)), (1, .int (nI k)), (2, .int sk), (3, .int (if (o = k) ∨ ((¬ o = k) ∧ (¬ ((sk >>> ((nI o) &&& 31)) &&& 1) = 1)) then nI (mCt (fun o => decide (¬ o = k) && mBit sk o && decide ((fun o => a_child (4 * o + 2)) o = (fun o => a_child (4 * o + 2)) k)) o) else ((nI (mCt (fun o => decide (¬ o = k) && mBit sk o && decide ((fun o => a_child (4 * o + 2)) o = (fun o => a_child (4 * o + 2)) k)) o)) + (if (a_child (4 * o + 2)) = (a_child (4 * k + 2)) then 1 else 0)))), (4, .int (if (o = k) ∨ ((¬ o = k) ∧ (¬ ((sk >>> ((nI o) &&& 31)) &&& 1) = 1)) then nI (mCt (fun o => decide (¬ o = k) && mBit sk o) o) else (nI ((mCt (fun o => decide (¬ o = k) && mBit sk o) o) + 1)))), (5, .int (nI o))]) (by first | (simp only [if_pos hm55_0, if_neg hm55_0, if_pos hm55_1, if_neg hm55_1, if_pos hm55_2]; done) | (clear hQ B hr hsc; grind)) ?_
        exact M60 hm55_0
      refine s_iload B dX9_catches_8 5 rfl ?_
      refine s_aload_n B dX9_catches_10 rfl 0 rfl ?_
      refine s_get (T := TX9) B inX9 0 rfl rfl 0 (Nat.le_of_ble_eq_true rfl) fl_X9_91 rfl rfl dX9_catches_11 ?_
      refine s_icmp_ge (tgt := 66) B dX9_catches_14 rfl (fun h14 => ?_) (fun h14 => ?_)
      · replace h14 : n ≤ o := (nI_leI (a := n) (b := o) (by omega) (by omega)).mp h14
        refine s_iload_n B dX9_catches_66 rfl 3 rfl ?_
        refine s_aload_n B dX9_catches_67 rfl 0 rfl ?_
        refine s_get (T := TX9) B inX9 0 rfl rfl 7 (Nat.le_of_ble_eq_true rfl) fl_X9_25 rfl rfl dX9_catches_68 ?_
        refine s_iconst B dX9_catches_71 ic_2 ?_
        refine s_ialdN B 2 0 rfl rfl dX9_catches_72 (by decide) (by decide) ?_
        refine s_icmp_ge (tgt := 82) B dX9_catches_73 rfl (fun h73 => ?_) (fun h73 => ?_)
        · refine s_iconst B dX9_catches_82 ic_1 ?_
          refine s_goto (tgt := 87) B dX9_catches_83 rfl ?_
          refine s_zret B hQ hr dX9_catches_87 rfl rfl ?_
          have e9 : o = n := by omega
          subst e9
          exact ⟨(by first | exact touch_a h73 | exact touch_n (by omega) h73 h79 | exact touch_b (by omega) h79), rfl⟩
        · refine s_iload B dX9_catches_76 4 rfl ?_
          refine s_iconst B dX9_catches_78 ic_4 ?_
          refine s_icmp_lt (tgt := 86) B dX9_catches_79 rfl (fun h79 => ?_) (fun h79 => ?_)
          · refine s_iconst B dX9_catches_86 ic_0 ?_
            refine s_zret B hQ hr dX9_catches_87 rfl rfl ?_
            have e9 : o = n := by omega
            subst e9
            exact ⟨(by first | exact touch_a h73 | exact touch_n (by omega) h73 h79 | exact touch_b (by omega) h79), rfl⟩
          · refine s_iconst B dX9_catches_82 ic_1 ?_
            refine s_goto (tgt := 87) B dX9_catches_83 rfl ?_
            refine s_zret B hQ hr dX9_catches_87 rfl rfl ?_
            have e9 : o = n := by omega
            subst e9
            exact ⟨(by first | exact touch_a h73 | exact touch_n (by omega) h73 h79 | exact touch_b (by omega) h79), rfl⟩
      · replace h14 : ¬ n ≤ o := fun hh => h14 ((nI_leI (a := n) (b := o) (by omega) (by omega)).mpr hh)
        refine s_iload B dX9_catches_17 5 rfl ?_
        refine s_iload_n B dX9_catches_19 rfl 1 rfl ?_
        refine s_icmp_eq (tgt := 60) B dX9_catches_20 rfl (fun h20 => ?_) (fun h20 => ?_)
        · replace h20 : o = k := (nI_eq (a := o) (b := k) (by omega) (by omega)).mp h20
          refine s_lv (lv' := [(0, _), (1, _), (2, _), (3, _), (4, _), (5, _)]) [0, 1, 2, 3, 4, 5] rfl ?_
          refine s_lve (lv' := [(0, .ref (b 0)), (1, .int (nI k)), (2, .int sk), (3, .int (if (o = k) ∨ ((¬ o = k) ∧ (¬ ((sk >>> ((nI o) &&& 31)) &&& 1) = 1)) then nI (mCt (fun o => decide (¬ o = k) && mBit sk o && decide ((fun o => a_child (4 * o + 2)) o = (fun o => a_child (4 * o + 2)) k)) o) else ((nI (mCt (fun o => decide (¬ o = k) && mBit sk o && decide ((fun o => a_child (4 * o + 2)) o = (fun o => a_child (4 * o + 2)) k)) o)) + (if (a_child (4 * o + 2)) = (a_child (4 * k + 2)) then 1 else 0)))), (4, .int (if (o = k) ∨ ((¬ o = k) ∧ (¬ ((sk >>> ((nI o) &&& 31)) &&& 1) = 1)) then nI (mCt (fun o => decide (¬ o = k) && mBit sk o) o) else (nI ((mCt (fun o => decide (¬ o = k) && mBit sk o) o) + 1)))), (5, .int (nI o))]) (by first | (simp only [if_pos h14, if_neg h14, if_pos h20]; done) | (clear hQ B hr hsc; grind)) ?_
          exact M60 h14
        · replace h20 : ¬ o = k := fun hh => h20 ((nI_eq (a := o) (b := k) (by omega) (by omega)).mpr hh)
          refine s_iload_n B dX9_catches_23 rfl 2 rfl ?_
          refine s_iload B dX9_catches_24 5 rfl ?_
          refine s_ishr B dX9_catches_26 ?_
          refine s_iconst B dX9_catches_27 ic_1 ?_
          refine s_iand B dX9_catches_28 ?_
          refine s_iconst B dX9_catches_29 ic_1 ?_
          refine s_icmp_ne (tgt := 60) B dX9_catches_30 rfl (fun h30 => ?_) (fun h30 => ?_)
          · refine s_lv (lv' := [(0, _), (1, _), (2, _), (3, _), (4, _), (5, _)]) [0, 1, 2, 3, 4, 5] rfl ?_
            refine s_lve (lv' := [(0, .ref (b 0)), (1, .int (nI k)), (2, .int sk), (3, .int (if (o = k) ∨ ((¬ o = k) ∧ (¬ ((sk >>> ((nI o) &&& 31)) &&& 1) = 1)) then nI (mCt (fun o => decide (¬ o = k) && mBit sk o && decide ((fun o => a_child (4 * o + 2)) o = (fun o => a_child (4 * o + 2)) k)) o) else ((nI (mCt (fun o => decide (¬ o = k) && mBit sk o && decide ((fun o => a_child (4 * o + 2)) o = (fun o => a_child (4 * o + 2)) k)) o)) + (if (a_child (4 * o + 2)) = (a_child (4 * k + 2)) then 1 else 0)))), (4, .int (if (o = k) ∨ ((¬ o = k) ∧ (¬ ((sk >>> ((nI o) &&& 31)) &&& 1) = 1)) then nI (mCt (fun o => decide (¬ o = k) && mBit sk o) o) else (nI ((mCt (fun o => decide (¬ o = k) && mBit sk o) o) + 1)))), (5, .int (nI o))]) (by first | (simp only [if_pos h14, if_neg h14, if_pos h20, if_neg h20, if_pos h30, if_neg h30]; done) | (clear hQ B hr hsc; grind)) ?_
            exact M60 h14
          · refine s_iload_n B dX9_catches_33 rfl 3 rfl ?_
            refine s_aload_n B dX9_catches_34 rfl 0 rfl ?_
            refine s_iload B dX9_catches_35 5 rfl ?_
            refine s_iconst B dX9_catches_37 ic_2 ?_
            refine s_callVi B hsc (c_X9_its l D g b I W n p0 a_child o 2 (by omega) (by decide)) (gw_V ml_X9_209 im_yX9_its se_yX9_its ini_RX9 co_yX9_its) hd_X9_its rfl rfl ⟨(Nat.le_of_ble_eq_true rfl), (Nat.le_of_ble_eq_true rfl)⟩ [0, 1] [0, 1, 2, 3, 4] rfl rfl rfl (ci := 9) (q0 := 0) rfl rfl rfl rfl rfl (Nat.le_of_ble_eq_true rfl) dX9_catches_38 (fun r u hpo => ?_)
            obtain ⟨rfl, rfl⟩ := hpo
            refine s_st (st' := [.int (a_child (4 * o + 2)), .int (nI (mCt (fun o => decide (¬ o = k) && mBit sk o && decide ((fun o => a_child (4 * o + 2)) o = (fun o => a_child (4 * o + 2)) k)) o))]) rfl ?_
            refine s_ws (ws' := [(b 0, .inr (9, [.int (nI n), .ref (b 1), .ref (b 2), .int (nI p0), .ref (b 3), .ref (b 4), .ref (b 5), .ref (b 6), .ref (b 7), .ref (b 8), .int (I 10), .ref (b 9), .int (I 12), .int (I 13), .int (I 14), .int (I 15), .long W, .int (I 17), .int (I 18), .int (I 19), .int (I 20), .ref (b 10), .ref (b 11), .ref (b 12), .ref (b 13), .ref (b 14), .ref (b 15), .int (I 27), .int (I 28), .ref (b 16), .ref (b 17), .ref (b 18), .ref (b 19), .ref (b 20), .ref (b 21), .int (I 35), .int (I 36), .int (I 37), .ref (b 22), .int (I 39), .int (I 40), .int (I 41), .ref (b 23), .int (I 43), .ref (b 24)])), (b 1, .inl (g 0, 32, .inl a_child)), (b 6, .inl (g 0, 4, .inl a_laws))]) rfl ?_
            refine s_aload_n B dX9_catches_41 rfl 0 rfl ?_
            refine s_iload_n B dX9_catches_42 rfl 1 rfl ?_
            refine s_iconst B dX9_catches_43 ic_2 ?_
            refine s_callVi B hsc (c_X9_its l D g b I W n p0 a_child k 2 (by omega) (by decide)) (gw_V ml_X9_209 im_yX9_its se_yX9_its ini_RX9 co_yX9_its) hd_X9_its rfl rfl ⟨(Nat.le_of_ble_eq_true rfl), (Nat.le_of_ble_eq_true rfl)⟩ [0, 1] [0, 1, 2, 3, 4] rfl rfl rfl (ci := 9) (q0 := 0) rfl rfl rfl rfl rfl (Nat.le_of_ble_eq_true rfl) dX9_catches_44 (fun r u hpo => ?_)
            obtain ⟨rfl, rfl⟩ := hpo
            refine s_st (st' := [.int (a_child (4 * k + 2)), .int (a_child (4 * o + 2)), .int (nI (mCt (fun o => decide (¬ o = k) && mBit sk o && decide ((fun o => a_child (4 * o + 2)) o = (fun o => a_child (4 * o + 2)) k)) o))]) rfl ?_
            refine s_ws (ws' := [(b 0, .inr (9, [.int (nI n), .ref (b 1), .ref (b 2), .int (nI p0), .ref (b 3), .ref (b 4), .ref (b 5), .ref (b 6), .ref (b 7), .ref (b 8), .int (I 10), .ref (b 9), .int (I 12), .int (I 13), .int (I 14), .int (I 15), .long W, .int (I 17), .int (I 18), .int (I 19), .int (I 20), .ref (b 10), .ref (b 11), .ref (b 12), .ref (b 13), .ref (b 14), .ref (b 15), .int (I 27), .int (I 28), .ref (b 16), .ref (b 17), .ref (b 18), .ref (b 19), .ref (b 20), .ref (b 21), .int (I 35), .int (I 36), .int (I 37), .ref (b 22), .int (I 39), .int (I 40), .int (I 41), .ref (b 23), .int (I 43), .ref (b 24)])), (b 1, .inl (g 0, 32, .inl a_child)), (b 6, .inl (g 0, 4, .inl a_laws))]) rfl ?_
            refine s_icmp_ne (tgt := 54) B dX9_catches_47 rfl (fun h47 => ?_) (fun h47 => ?_)
            · refine s_iconst B dX9_catches_54 ic_0 ?_
              refine s_lv (lv' := [(0, _), (1, _), (2, _), (3, _), (4, _), (5, _)]) [0, 1, 2, 3, 4, 5] rfl ?_
              refine s_st (st' := [.int (if (a_child (4 * o + 2)) = (a_child (4 * k + 2)) then 1 else 0), .int (nI (mCt (fun o => decide (¬ o = k) && mBit sk o && decide ((fun o => a_child (4 * o + 2)) o = (fun o => a_child (4 * o + 2)) k)) o))]) (by first | (simp only [if_pos h14, if_neg h14, if_pos h20, if_neg h20, if_pos h30, if_pos h47, if_neg h47]; done) | (clear hQ B hr hsc; grind)) ?_
              exact M55 h14 h20 h30
            · refine s_iconst B dX9_catches_50 ic_1 ?_
              refine s_goto (tgt := 55) B dX9_catches_51 rfl ?_
              refine s_lv (lv' := [(0, _), (1, _), (2, _), (3, _), (4, _), (5, _)]) [0, 1, 2, 3, 4, 5] rfl ?_
              refine s_st (st' := [.int (if (a_child (4 * o + 2)) = (a_child (4 * k + 2)) then 1 else 0), .int (nI (mCt (fun o => decide (¬ o = k) && mBit sk o && decide ((fun o => a_child (4 * o + 2)) o = (fun o => a_child (4 * o + 2)) k)) o))]) (by first | (simp only [if_pos h14, if_neg h14, if_pos h20, if_neg h20, if_pos h30, if_pos h47]; done) | (clear hQ B hr hsc; grind)) ?_
              exact M55 h14 h20 h30
  refine s_iconst B dX9_catches_0 ic_0 ?_
  refine s_istore_n (lv' := [(3, _), (0, _), (1, _), (2, _)]) B dX9_catches_1 rfl (Nat.le_of_ble_eq_true rfl) rfl ?_
  refine s_iconst B dX9_catches_2 ic_0 ?_
  refine s_istore (lv' := [(4, _), (3, _), (0, _), (1, _), (2, _)]) B dX9_catches_3 (Nat.le_of_ble_eq_true rfl) rfl ?_
  refine s_iconst B dX9_catches_5 ic_0 ?_
  refine s_istore (lv' := [(5, _), (4, _), (3, _), (0, _), (1, _), (2, _)]) B dX9_catches_6 (Nat.le_of_ble_eq_true rfl) rfl ?_
  refine s_lv (lv' := [(0, _), (1, _), (2, _), (3, _), (4, _), (5, _)]) [3, 4, 5, 2, 1, 0] rfl ?_
  refine s_lve (lv' := [(0, .ref (b 0)), (1, .int (nI k)), (2, .int sk), (3, .int (nI (mCt (fun o => decide (¬ o = k) && mBit sk o && decide ((fun o => a_child (4 * o + 2)) o = (fun o => a_child (4 * o + 2)) k)) 0))), (4, .int (nI (mCt (fun o => decide (¬ o = k) && mBit sk o) 0))), (5, .int (nI 0))]) (by rfl) ?_
  exact L8 (n + 1) 0 (by omega) (by omega)
