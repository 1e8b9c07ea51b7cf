def mFx (f : Nat → Bool) : Nat → Nat
  | 0 => 0
  | k + 1 => if (List.range k).any f then mFx f k else k
theorem mFx_yes {f : Nat → Bool} {k : Nat} (h : ∀ j, j < k → f j = false) (hk : f k = true) : ∀ n, k < n → mFx f n = k
  | 0, hn => absurd hn (Nat.not_lt_zero k)
  | n + 1, hn => by
    unfold mFx
    by_cases e : k = n
    · subst e; rw [any_range_no h]; rfl
    · rw [any_range_yes hk (by omega), mFx_yes h hk n (by omega)]; rfl
/-- FOR GOOD: of the first m the first for which f holds, as the day before td + it; -3: none -/
def mGood (f : Nat → Bool) (td m : Nat) : Int32 := if (List.range m).any f then nI (td + mFx f m) - 1 else -3
theorem mGood_yes {f : Nat → Bool} {td m k : Nat} (h : ∀ j, j < k → f j = false) (hk : f k = true) (hm : k < m) : mGood f td m = nI (td + k) - 1 := by
  unfold mGood
  rw [any_range_yes hk hm, mFx_yes h hk m hm]; rfl
theorem mGood_no {f : Nat → Bool} {td m : Nat} (h : ∀ j, j < m → f j = false) : mGood f td m = -3 := by
  unfold mGood
  rw [any_range_no h]; rfl
def rmX7_dayForGood : Room := { frames := 4, cells := 0, slots := 0, locals := 90 }
theorem hd_X7_dayForGood : yX7_dayForGood.cls = RX7 ∧ yX7_dayForGood.cls ≠ "java/lang/invoke/MethodHandle" ∧ yX7_dayForGood.cls ≠ "java/lang/invoke/VarHandle" ∧ (parseMethodDescriptor yX7_dayForGood.desc).map (fun d => d.parameters.length) = some 2 := by decide +kernel
set_option maxHeartbeats 4000000 in
set_option maxRecDepth 100000 in
theorem c_X7_dayForGood (l : Launch) (D : va_G) (g : Nat → ClassId) (hT : Nat) (ha : Nat → Nat) (h : Nat → Nat) (kd ka ho fa si kn aw : Nat → Int32) (n : Nat) (ev cr tr lw : Nat → Int32) (td : Nat) (z : Int32) (q : Nat → Int32) (kd2 ka2 ho2 fa2 si2 kn2 aw2 : Nat → Int32) (n2 : Nat) (ev2 cr2 tr2 lw2 : Nat → Int32) (td2 : Nat) (z2 : Int32) (q2 : Nat → Int32) (k : Nat) (hn : n ≤ 8) (htd : td ≤ 40) (hk : k < 8) : Ci l yX7_dayForGood (WW yX7_dayForGood cX7_dayForGood 4 (some FieldType.int)) rmX7_dayForGood D vwCl (TY g) [.ref hT, .ref (h 0), .int (nI k)] ((hT, .inr (7, [.ref (ha 0)])) :: (SchC g ha kd2 ka2 ho2 fa2 si2 kn2 aw2 n2 ev2 cr2 tr2 lw2 td2 z2 q2 ++ SchC g h kd ka ho fa si kn aw n ev cr tr lw td z q)) (fun r u => r = mGood (fun j => decide (¬ (mGo kd ka ho fa ev lw n (si, kn, aw) td j).2.2 k < lw 1)) td (41 - td) ∧ ∃ (s1 s2 s3 c1 c2 : Nat → Int32) (t1 : Nat) (q1 : Nat → Int32), u = (hT, .inr (7, [.ref (ha 0)])) :: (SchC g ha kd ka ho fa s1 s2 s3 n ev c1 c2 lw t1 z q1 ++ SchC g h kd ka ho fa si kn aw n ev cr tr lw td z q)) := by
  refine ci_in (by decide) (Nat.le_of_ble_eq_true rfl) (a0 := [hT, ha 0, ha 1, ha 2, ha 3, ha 4, ha 5, ha 6, ha 7, ha 8, ha 9, ha 10, ha 11, ha 12, h 0, h 1, h 2, h 3, h 4, h 5, h 6, h 7, h 8, h 9, h 10, h 11, h 12]) rfl (fun p e s m args below meth c A Q hQ B hr hsc => ?_)
  have LO : ∀ (s1 s2 s3 cx tx qx : Nat → Int32), mGo kd ka ho fa ev lw n (si, kn, aw) td (40 - td) = (s1, s2, s3) → (∀ j, j < 40 - td → (fun j => decide (¬ (mGo kd ka ho fa ev lw n (si, kn, aw) td j).2.2 k < lw 1)) j = false) → ∀ x : Nat, x ≤ 41 → (40 < x → ∀ j, j < 41 - td → (fun j => decide (¬ (mGo kd ka ho fa ev lw n (si, kn, aw) td j).2.2 k < lw 1)) j = false) → (40 - td < x → (fun j => decide (¬ (mGo kd ka ho fa ev lw n (si, kn, aw) td j).2.2 k < lw 1)) (40 - td) = false) → Sx p l e rmX7_dayForGood s m args below meth c D vwCl A 4 Q 10 [(0, .ref hT), (1, .ref (h 0)), (2, .int (nI k)), (3, .int (nI x))] [] [(hT, .inr (7, [.ref (ha 0)])), (ha 0, .inr (2, [.ref (ha 1), .ref (ha 2), .ref (ha 3), .ref (ha 4), .ref (ha 5), .ref (ha 6), .ref (ha 7), .int (nI n), .ref (ha 8), .ref (ha 9), .ref (ha 10), .ref (ha 11), .int (nI 40), .int z, .ref (ha 12)])), (ha 1, .inl (g 0, 8, .inl kd)), (ha 2, .inl (g 0, 8, .inl ka)), (ha 3, .inl (g 0, 8, .inl ho)), (ha 4, .inl (g 0, 8, .inl fa)), (ha 5, .inl (g 0, 8, .inl s1)), (ha 6, .inl (g 0, 8, .inl s2)), (ha 7, .inl (g 0, 8, .inl s3)), (ha 8, .inl (g 0, 40, .inl ev)), (ha 9, .inl (g 0, 40, .inl cx)), (ha 10, .inl (g 0, 40, .inl tx)), (ha 11, .inl (g 0, 4, .inl lw)), (ha 12, .inr (0, [.int (qx 0), .int (qx 1), .int (qx 2), .int (qx 3), .int (qx 4), .int (qx 5), .int (qx 6), .int (qx 7), .int (qx 8)])), (h 0, .inr (2, [.ref (h 1), .ref (h 2), .ref (h 3), .ref (h 4), .ref (h 5), .ref (h 6), .ref (h 7), .int (nI n), .ref (h 8), .ref (h 9), .ref (h 10), .ref (h 11), .int (nI td), .int z, .ref (h 12)])), (h 1, .inl (g 0, 8, .inl kd)), (h 2, .inl (g 0, 8, .inl ka)), (h 3, .inl (g 0, 8, .inl ho)), (h 4, .inl (g 0, 8, .inl fa)), (h 5, .inl (g 0, 8, .inl si)), (h 6, .inl (g 0, 8, .inl kn)), (h 7, .inl (g 0, 8, .inl aw)), (h 8, .inl (g 0, 40, .inl ev)), (h 9, .inl (g 0, 40, .inl cr)), (h 10, .inl (g 0, 40, .inl tr)), (h 11, .inl (g 0, 4, .inl lw)), (h 12, .inr (0, [.int (q 0), .int (q 1), .int (q 2), .int (q 3), .int (q 4), .int (q 5), .int (q 6), .int (q 7), .int (q 8)]))] := by
    intro s1 s2 s3 cx tx qx hG hno1 x0 hx0 hz0 hy0
    have LX : ∀ (jj : Nat) (x : Nat), 41 - x < jj → (x ≤ 41) → (40 < x → ∀ j, j < 41 - td → (fun j => decide (¬ (mGo kd ka ho fa ev lw n (si, kn, aw) td j).2.2 k < lw 1)) j = false) → (40 - td < x → (fun j => decide (¬ (mGo kd ka ho fa ev lw n (si, kn, aw) td j).2.2 k < lw 1)) (40 - td) = false) → Sx p l e rmX7_dayForGood s m args below meth c D vwCl A 4 Q 10 [(0, .ref hT), (1, .ref (h 0)), (2, .int (nI k)), (3, .int (nI x))] [] [(hT, .inr (7, [.ref (ha 0)])), (ha 0, .inr (2, [.ref (ha 1), .ref (ha 2), .ref (ha 3), .ref (ha 4), .ref (ha 5), .ref (ha 6), .ref (ha 7), .int (nI n), .ref (ha 8), .ref (ha 9), .ref (ha 10), .ref (ha 11), .int (nI 40), .int z, .ref (ha 12)])), (ha 1, .inl (g 0, 8, .inl kd)), (ha 2, .inl (g 0, 8, .inl ka)), (ha 3, .inl (g 0, 8, .inl ho)), (ha 4, .inl (g 0, 8, .inl fa)), (ha 5, .inl (g 0, 8, .inl s1)), (ha 6, .inl (g 0, 8, .inl s2)), (ha 7, .inl (g 0, 8, .inl s3)), (ha 8, .inl (g 0, 40, .inl ev)), (ha 9, .inl (g 0, 40, .inl cx)), (ha 10, .inl (g 0, 40, .inl tx)), (ha 11, .inl (g 0, 4, .inl lw)), (ha 12, .inr (0, [.int (qx 0), .int (qx 1), .int (qx 2), .int (qx 3), .int (qx 4), .int (qx 5), .int (qx 6), .int (qx 7), .int (qx 8)])), (h 0, .inr (2, [.ref (h 1), .ref (h 2), .ref (h 3), .ref (h 4), .ref (h 5), .ref (h 6), .ref (h 7), .int (nI n), .ref (h 8), .ref (h 9), .ref (h 10), .ref (h 11), .int (nI td), .int z, .ref (h 12)])), (h 1, .inl (g 0, 8, .inl kd)), (h 2, .inl (g 0, 8, .inl ka)), (h 3, .inl (g 0, 8, .inl ho)), (h 4, .inl (g 0, 8, .inl fa)), (h 5, .inl (g 0, 8, .inl si)), (h 6, .inl (g 0, 8, .inl kn)), (h 7, .inl (g 0, 8, .inl aw)), (h 8, .inl (g 0, 40, .inl ev)), (h 9, .inl (g 0, 40, .inl cr)), (h 10, .inl (g 0, 40, .inl tr)), (h 11, .inl (g 0, 4, .inl lw)), (h 12, .inr (0, [.int (q 0), .int (q 1), .int (q 2), .int (q 3), .int (q 4), .int (q 5), .int (q 6), .int (q 7), .int (q 8)]))] := by
      intro jj
      induction jj with
      | zero => intro x hj; exact absurd hj (Nat.not_lt_zero _)
      | succ jj ih =>
        intro x hj hx hz hy
        refine s_iload_n B dX7_dayForGood_10 rfl 3 rfl ?_
        refine s_bipush B dX7_dayForGood_11 bp_40 ?_
        refine s_icmp_gt (tgt := 61) B dX7_dayForGood_13 rfl (fun h13 => ?_) (fun h13 => ?_)
        · replace h13 : 40 < x := (nI_ltI (a := 40) (b := x) (by omega) (by omega)).mp h13
          refine s_bipush B dX7_dayForGood_61 bp_m3 ?_
          refine s_iret B hQ hr dX7_dayForGood_63 rfl ?_
          exact ⟨(mGood_no (hz (by omega))).symm, s1, s2, s3, cx, tx, 40, qx, rfl⟩
        · replace h13 : ¬ 40 < x := fun hh => h13 ((nI_ltI (a := 40) (b := x) (by omega) (by omega)).mpr hh)
          refine s_aload_n B dX7_dayForGood_16 rfl 0 rfl ?_
          refine s_get (T := TX7) B inX7 0 rfl rfl 0 (Nat.le_of_ble_eq_true rfl) fl_X7_12 rfl rfl dX7_dayForGood_17 ?_
          refine s_get (T := TX2) B inX2 1 rfl rfl 6 (Nat.le_of_ble_eq_true rfl) fl_X7_43 rfl rfl dX7_dayForGood_20 ?_
          refine s_iload_n B dX7_dayForGood_23 rfl 2 rfl ?_
          refine s_ialdN B 8 0 rfl rfl dX7_dayForGood_24 (by omega) (by decide) ?_
          refine s_aload_n B dX7_dayForGood_25 rfl 0 rfl ?_
          refine s_get (T := TX7) B inX7 0 rfl rfl 0 (Nat.le_of_ble_eq_true rfl) fl_X7_12 rfl rfl dX7_dayForGood_26 ?_
          refine s_get (T := TX2) B inX2 1 rfl rfl 11 (Nat.le_of_ble_eq_true rfl) fl_X7_47 rfl rfl dX7_dayForGood_29 ?_
          refine s_iconst B dX7_dayForGood_32 ic_1 ?_
          refine s_ialdN B 12 0 rfl rfl dX7_dayForGood_33 (by decide) (by decide) ?_
          refine s_icmp_lt (tgt := 47) B dX7_dayForGood_34 rfl (fun h34 => ?_) (fun h34 => ?_)
          · refine s_aload_n B dX7_dayForGood_47 rfl 0 rfl ?_
            refine s_get (T := TX7) B inX7 0 rfl rfl 0 (Nat.le_of_ble_eq_true rfl) fl_X7_12 rfl rfl dX7_dayForGood_48 ?_
            refine s_callVi B hsc (c_X2_goOneDay_over l D g ha kd ka ho fa s1 s2 s3 n ev cx tx lw 40 z qx rfl) (gw_V ml_X7_30 im_yX2_goOneDay se_yX2_goOneDay ini_RX2 co_yX2_goOneDay) hd_X2_goOneDay rfl rfl ⟨(Nat.le_of_ble_eq_true rfl), (Nat.le_of_ble_eq_true rfl)⟩ [1, 2, 3, 4, 5, 6, 7, 8, 9, 10, 11, 12, 13] [0, 1, 2, 3, 4] rfl rfl rfl (ci := 2) (q0 := 0) rfl rfl rfl rfl rfl (Nat.le_of_ble_eq_true rfl) dX7_dayForGood_51 (fun r u hpo => ?_)
            obtain ⟨rfl, rfl⟩ := hpo
            refine s_st (st' := [.int 0]) rfl ?_
            refine s_ws (ws' := [(hT, .inr (7, [.ref (ha 0)])), (ha 0, .inr (2, [.ref (ha 1), .ref (ha 2), .ref (ha 3), .ref (ha 4), .ref (ha 5), .ref (ha 6), .ref (ha 7), .int (nI n), .ref (ha 8), .ref (ha 9), .ref (ha 10), .ref (ha 11), .int (nI 40), .int z, .ref (ha 12)])), (ha 1, .inl (g 0, 8, .inl kd)), (ha 2, .inl (g 0, 8, .inl ka)), (ha 3, .inl (g 0, 8, .inl ho)), (ha 4, .inl (g 0, 8, .inl fa)), (ha 5, .inl (g 0, 8, .inl s1)), (ha 6, .inl (g 0, 8, .inl s2)), (ha 7, .inl (g 0, 8, .inl s3)), (ha 8, .inl (g 0, 40, .inl ev)), (ha 9, .inl (g 0, 40, .inl cx)), (ha 10, .inl (g 0, 40, .inl tx)), (ha 11, .inl (g 0, 4, .inl lw)), (ha 12, .inr (0, [.int (qx 0), .int (qx 1), .int (qx 2), .int (qx 3), .int (qx 4), .int (qx 5), .int (qx 6), .int (qx 7), .int (qx 8)])), (h 0, .inr (2, [.ref (h 1), .ref (h 2), .ref (h 3), .ref (h 4), .ref (h 5), .ref (h 6), .ref (h 7), .int (nI n), .ref (h 8), .ref (h 9), .ref (h 10), .ref (h 11), .int (nI td), .int z, .ref (h 12)])), (h 1, .inl (g 0, 8, .inl kd)), (h 2, .inl (g 0, 8, .inl ka)), (h 3, .inl (g 0, 8, .inl ho)), (h 4, .inl (g 0, 8, .inl fa)), (h 5, .inl (g 0, 8, .inl si)), (h 6, .inl (g 0, 8, .inl kn)), (h 7, .inl (g 0, 8, .inl aw)), (h 8, .inl (g 0, 40, .inl ev)), (h 9, .inl (g 0, 40, .inl cr)), (h 10, .inl (g 0, 40, .inl tr)), (h 11, .inl (g 0, 4, .inl lw)), (h 12, .inr (0, [.int (q 0), .int (q 1), .int (q 2), .int (q 3), .int (q 4), .int (q 5), .int (q 6), .int (q 7), .int (q 8)]))]) rfl ?_
            refine s_pop B dX7_dayForGood_54 rfl ?_
            refine s_iinc (lv' := [(3, _), (0, _), (1, _), (2, _)]) (k := 3) B dX7_dayForGood_55 rfl (ii_n _) (Nat.le_of_ble_eq_true rfl) rfl ?_
            refine s_goto (tgt := 10) B dX7_dayForGood_58 rfl ?_
            refine s_lv (lv' := [(0, _), (1, _), (2, _), (3, _)]) [1, 2, 3, 0] rfl ?_
            exact ih (x + 1) (by omega) (by omega) (fun _ j hj => by by_cases e : j = 40 - td; (subst e; exact (by show decide _ = false; rw [decide_eq_false_iff_not, hG]; exact fun hh => hh h34)); exact hno1 j (by omega)) (fun _ => (by show decide _ = false; rw [decide_eq_false_iff_not, hG]; exact fun hh => hh h34))
          · refine s_aload_n B dX7_dayForGood_37 rfl 0 rfl ?_
            refine s_get (T := TX7) B inX7 0 rfl rfl 0 (Nat.le_of_ble_eq_true rfl) fl_X7_12 rfl rfl dX7_dayForGood_38 ?_
            refine s_get (T := TX2) B inX2 1 rfl rfl 12 (Nat.le_of_ble_eq_true rfl) fl_X7_50 rfl rfl dX7_dayForGood_41 ?_
            refine s_iconst B dX7_dayForGood_44 ic_1 ?_
            refine s_isub B dX7_dayForGood_45 ?_
            refine s_iret B hQ hr dX7_dayForGood_46 rfl ?_
            refine ⟨?_, s1, s2, s3, cx, tx, 40, qx, rfl⟩
            rw [mGood_yes (k := 40 - td) (fun j hj => hno1 j hj) (by show decide _ = true; rw [decide_eq_true_iff, hG]; exact h34) (by omega), show td + (40 - td) = 40 by omega]
    exact LX (41 + 1) x0 (by omega) hx0 hz0 hy0
  have L10 : ∀ (jj : Nat) (i : Nat) (s1 s2 s3 cx tx qx : Nat → Int32), 40 - i < jj → (td + i ≤ 40) → (mGo kd ka ho fa ev lw n (si, kn, aw) td i = (s1, s2, s3)) → (∀ j, j < i → (fun j => decide (¬ (mGo kd ka ho fa ev lw n (si, kn, aw) td j).2.2 k < lw 1)) j = false) → Sx p l e rmX7_dayForGood s m args below meth c D vwCl A 4 Q 10 [(0, .ref hT), (1, .ref (h 0)), (2, .int (nI k)), (3, .int (nI i))] [] [(hT, .inr (7, [.ref (ha 0)])), (ha 0, .inr (2, [.ref (ha 1), .ref (ha 2), .ref (ha 3), .ref (ha 4), .ref (ha 5), .ref (ha 6), .ref (ha 7), .int (nI n), .ref (ha 8), .ref (ha 9), .ref (ha 10), .ref (ha 11), .int (nI (td + i)), .int z, .ref (ha 12)])), (ha 1, .inl (g 0, 8, .inl kd)), (ha 2, .inl (g 0, 8, .inl ka)), (ha 3, .inl (g 0, 8, .inl ho)), (ha 4, .inl (g 0, 8, .inl fa)), (ha 5, .inl (g 0, 8, .inl s1)), (ha 6, .inl (g 0, 8, .inl s2)), (ha 7, .inl (g 0, 8, .inl s3)), (ha 8, .inl (g 0, 40, .inl ev)), (ha 9, .inl (g 0, 40, .inl cx)), (ha 10, .inl (g 0, 40, .inl tx)), (ha 11, .inl (g 0, 4, .inl lw)), (ha 12, .inr (0, [.int (qx 0), .int (qx 1), .int (qx 2), .int (qx 3), .int (qx 4), .int (qx 5), .int (qx 6), .int (qx 7), .int (qx 8)])), (h 0, .inr (2, [.ref (h 1), .ref (h 2), .ref (h 3), .ref (h 4), .ref (h 5), .ref (h 6), .ref (h 7), .int (nI n), .ref (h 8), .ref (h 9), .ref (h 10), .ref (h 11), .int (nI td), .int z, .ref (h 12)])), (h 1, .inl (g 0, 8, .inl kd)), (h 2, .inl (g 0, 8, .inl ka)), (h 3, .inl (g 0, 8, .inl ho)), (h 4, .inl (g 0, 8, .inl fa)), (h 5, .inl (g 0, 8, .inl si)), (h 6, .inl (g 0, 8, .inl kn)), (h 7, .inl (g 0, 8, .inl aw)), (h 8, .inl (g 0, 40, .inl ev)), (h 9, .inl (g 0, 40, .inl cr)), (h 10, .inl (g 0, 40, .inl tr)), (h 11, .inl (g 0, 4, .inl lw)), (h 12, .inr (0, [.int (q 0), .int (q 1), .int (q 2), .int (q 3), .int (q 4), .int (q 5), .int (q 6), .int (q 7), .int (q 8)]))] := by
    intro jj
    induction jj with
    | zero => intro i s1 s2 s3 cx tx qx hj; exact absurd hj (Nat.not_lt_zero _)
    | succ jj ih =>
      intro i s1 s2 s3 cx tx qx hj hti hG hno
      by_cases hov : td + i = 40
      · have e2 : i = 40 - td := by omega
        subst e2
        refine s_ws (ws' := [(hT, .inr (7, [.ref (ha 0)])), (ha 0, .inr (2, [.ref (ha 1), .ref (ha 2), .ref (ha 3), .ref (ha 4), .ref (ha 5), .ref (ha 6), .ref (ha 7), .int (nI n), .ref (ha 8), .ref (ha 9), .ref (ha 10), .ref (ha 11), .int (nI 40), .int z, .ref (ha 12)])), (ha 1, .inl (g 0, 8, .inl kd)), (ha 2, .inl (g 0, 8, .inl ka)), (ha 3, .inl (g 0, 8, .inl ho)), (ha 4, .inl (g 0, 8, .inl fa)), (ha 5, .inl (g 0, 8, .inl s1)), (ha 6, .inl (g 0, 8, .inl s2)), (ha 7, .inl (g 0, 8, .inl s3)), (ha 8, .inl (g 0, 40, .inl ev)), (ha 9, .inl (g 0, 40, .inl cx)), (ha 10, .inl (g 0, 40, .inl tx)), (ha 11, .inl (g 0, 4, .inl lw)), (ha 12, .inr (0, [.int (qx 0), .int (qx 1), .int (qx 2), .int (qx 3), .int (qx 4), .int (qx 5), .int (qx 6), .int (qx 7), .int (qx 8)])), (h 0, .inr (2, [.ref (h 1), .ref (h 2), .ref (h 3), .ref (h 4), .ref (h 5), .ref (h 6), .ref (h 7), .int (nI n), .ref (h 8), .ref (h 9), .ref (h 10), .ref (h 11), .int (nI td), .int z, .ref (h 12)])), (h 1, .inl (g 0, 8, .inl kd)), (h 2, .inl (g 0, 8, .inl ka)), (h 3, .inl (g 0, 8, .inl ho)), (h 4, .inl (g 0, 8, .inl fa)), (h 5, .inl (g 0, 8, .inl si)), (h 6, .inl (g 0, 8, .inl kn)), (h 7, .inl (g 0, 8, .inl aw)), (h 8, .inl (g 0, 40, .inl ev)), (h 9, .inl (g 0, 40, .inl cr)), (h 10, .inl (g 0, 40, .inl tr)), (h 11, .inl (g 0, 4, .inl lw)), (h 12, .inr (0, [.int (q 0), .int (q 1), .int (q 2), .int (q 3), .int (q 4), .int (q 5), .int (q 6), .int (q 7), .int (q 8)]))]) (by rw [show td + (40 - td) = 40 by omega]) ?_
        exact LO s1 s2 s3 cx tx qx hG hno (40 - td) (by omega) (fun hh => absurd hh (by omega)) (fun hh => absurd hh (by omega))
      refine s_iload_n B dX7_dayForGood_10 rfl 3 rfl ?_
      refine s_bipush B dX7_dayForGood_11 bp_40 ?_
      refine s_icmp_gt (tgt := 61) B dX7_dayForGood_13 rfl (fun h13 => ?_) (fun h13 => ?_)
      · replace h13 : 40 < i := (nI_ltI (a := 40) (b := i) (by omega) (by omega)).mp h13
        refine s_bipush B dX7_dayForGood_61 bp_m3 ?_
        refine s_iret B hQ hr dX7_dayForGood_63 rfl ?_
        exfalso; omega
      · replace h13 : ¬ 40 < i := fun hh => h13 ((nI_ltI (a := 40) (b := i) (by omega) (by omega)).mpr hh)
        refine s_aload_n B dX7_dayForGood_16 rfl 0 rfl ?_
        refine s_get (T := TX7) B inX7 0 rfl rfl 0 (Nat.le_of_ble_eq_true rfl) fl_X7_12 rfl rfl dX7_dayForGood_17 ?_
        refine s_get (T := TX2) B inX2 1 rfl rfl 6 (Nat.le_of_ble_eq_true rfl) fl_X7_43 rfl rfl dX7_dayForGood_20 ?_
        refine s_iload_n B dX7_dayForGood_23 rfl 2 rfl ?_
        refine s_ialdN B 8 0 rfl rfl dX7_dayForGood_24 (by omega) (by decide) ?_
        refine s_aload_n B dX7_dayForGood_25 rfl 0 rfl ?_
        refine s_get (T := TX7) B inX7 0 rfl rfl 0 (Nat.le_of_ble_eq_true rfl) fl_X7_12 rfl rfl dX7_dayForGood_26 ?_
        refine s_get (T := TX2) B inX2 1 rfl rfl 11 (Nat.le_of_ble_eq_true rfl) fl_X7_47 rfl rfl dX7_dayForGood_29 ?_
        refine s_iconst B dX7_dayForGood_32 ic_1 ?_
        refine s_ialdN B 12 0 rfl rfl dX7_dayForGood_33 (by decide) (by decide) ?_
        refine s_icmp_lt (tgt := 47) B dX7_dayForGood_34 rfl (fun h34 => ?_) (fun h34 => ?_)
        · refine s_aload_n B dX7_dayForGood_47 rfl 0 rfl ?_
          refine s_get (T := TX7) B inX7 0 rfl rfl 0 (Nat.le_of_ble_eq_true rfl) fl_X7_12 rfl rfl dX7_dayForGood_48 ?_
          refine s_callVi B hsc (c_X2_goOneDay l D g ha kd ka ho fa s1 s2 s3 n ev cx tx lw (td + i) z qx (by omega) hn) (gw_V ml_X7_30 im_yX2_goOneDay se_yX2_goOneDay ini_RX2 co_yX2_goOneDay) hd_X2_goOneDay rfl rfl ⟨(Nat.le_of_ble_eq_true rfl), (Nat.le_of_ble_eq_true rfl)⟩ [1, 2, 3, 4, 5, 6, 7, 8, 9, 10, 11, 12, 13] [0, 1, 2, 3, 4] rfl rfl rfl (ci := 2) (q0 := 0) rfl rfl rfl rfl rfl (Nat.le_of_ble_eq_true rfl) dX7_dayForGood_51 (fun r u hpo => ?_)
          obtain ⟨rfl, q1, rfl⟩ := hpo
          refine s_st (st' := [.int (mThere kd ka fa s1 s2 s3 ev lw (td + i) n)]) rfl ?_
          refine s_ws (ws' := [(hT, .inr (7, [.ref (ha 0)])), (ha 0, .inr (2, [.ref (ha 1), .ref (ha 2), .ref (ha 3), .ref (ha 4), .ref (ha 5), .ref (ha 6), .ref (ha 7), .int (nI n), .ref (ha 8), .ref (ha 9), .ref (ha 10), .ref (ha 11), .int (nI (td + (i + 1))), .int z, .ref (ha 12)])), (ha 1, .inl (g 0, 8, .inl kd)), (ha 2, .inl (g 0, 8, .inl ka)), (ha 3, .inl (g 0, 8, .inl ho)), (ha 4, .inl (g 0, 8, .inl fa)), (ha 5, .inl (g 0, 8, .inl (mSi1 kd ho lw s1 n))), (ha 6, .inl (g 0, 8, .inl (mMap mDec s2 n))), (ha 7, .inl (g 0, 8, .inl (mMap (mAw (mThere kd ka fa s1 s2 s3 ev lw (td + i) n)) s3 n))), (ha 8, .inl (g 0, 40, .inl ev)), (ha 9, .inl (g 0, 40, .inl (upd cx (td + i) (mThere kd ka fa s1 s2 s3 ev lw (td + i) n)))), (ha 10, .inl (g 0, 40, .inl (upd tx (td + i) (mThere kd ka fa s1 s2 s3 ev lw (td + i) n)))), (ha 11, .inl (g 0, 4, .inl lw)), (ha 12, .inr (0, [.int (q1 0), .int (q1 1), .int (q1 2), .int (q1 3), .int (q1 4), .int (q1 5), .int (q1 6), .int (q1 7), .int (q1 8)])), (h 0, .inr (2, [.ref (h 1), .ref (h 2), .ref (h 3), .ref (h 4), .ref (h 5), .ref (h 6), .ref (h 7), .int (nI n), .ref (h 8), .ref (h 9), .ref (h 10), .ref (h 11), .int (nI td), .int z, .ref (h 12)])), (h 1, .inl (g 0, 8, .inl kd)), (h 2, .inl (g 0, 8, .inl ka)), (h 3, .inl (g 0, 8, .inl ho)), (h 4, .inl (g 0, 8, .inl fa)), (h 5, .inl (g 0, 8, .inl si)), (h 6, .inl (g 0, 8, .inl kn)), (h 7, .inl (g 0, 8, .inl aw)), (h 8, .inl (g 0, 40, .inl ev)), (h 9, .inl (g 0, 40, .inl cr)), (h 10, .inl (g 0, 40, .inl tr)), (h 11, .inl (g 0, 4, .inl lw)), (h 12, .inr (0, [.int (q 0), .int (q 1), .int (q 2), .int (q 3), .int (q 4), .int (q 5), .int (q 6), .int (q 7), .int (q 8)]))]) rfl ?_
          refine s_pop B dX7_dayForGood_54 rfl ?_
          refine s_iinc (lv' := [(3, _), (0, _), (1, _), (2, _)]) (k := 3) B dX7_dayForGood_55 rfl (ii_n _) (Nat.le_of_ble_eq_true rfl) rfl ?_
          refine s_goto (tgt := 10) B dX7_dayForGood_58 rfl ?_
          refine s_lv (lv' := [(0, _), (1, _), (2, _), (3, _)]) [1, 2, 3, 0] rfl ?_
          exact ih (i + 1) (mSi1 kd ho lw s1 n) (mMap mDec s2 n) (mMap (mAw (mThere kd ka fa s1 s2 s3 ev lw (td + i) n)) s3 n) (upd cx (td + i) (mThere kd ka fa s1 s2 s3 ev lw (td + i) n)) (upd tx (td + i) (mThere kd ka fa s1 s2 s3 ev lw (td + i) n)) q1 (by omega) (by omega) (by unfold mGo; rw [hG]) (fun j hj => by by_cases e : j = i; (subst e; exact (by show decide _ = false; rw [decide_eq_false_iff_not, hG]; exact fun hh => hh h34)); exact hno j (by omega))
        · refine s_aload_n B dX7_dayForGood_37 rfl 0 rfl ?_
          refine s_get (T := TX7) B inX7 0 rfl rfl 0 (Nat.le_of_ble_eq_true rfl) fl_X7_12 rfl rfl dX7_dayForGood_38 ?_
          refine s_get (T := TX2) B inX2 1 rfl rfl 12 (Nat.le_of_ble_eq_true rfl) fl_X7_50 rfl rfl dX7_dayForGood_41 ?_
          refine s_iconst B dX7_dayForGood_44 ic_1 ?_
          refine s_isub B dX7_dayForGood_45 ?_
          refine s_iret B hQ hr dX7_dayForGood_46 rfl ?_
          have hg : (fun j => decide (¬ (mGo kd ka ho fa ev lw n (si, kn, aw) td j).2.2 k < lw 1)) i = true := by show decide _ = true; rw [decide_eq_true_iff, hG]; exact h34
          refine ⟨?_, s1, s2, s3, cx, tx, td + i, qx, rfl⟩
          rw [mGood_yes hno hg (by omega)]
  refine s_aload_n B dX7_dayForGood_0 rfl 0 rfl ?_
  refine s_get (T := TX7) B inX7 0 rfl rfl 0 (Nat.le_of_ble_eq_true rfl) fl_X7_12 rfl rfl dX7_dayForGood_1 ?_
  refine s_aload_n B dX7_dayForGood_4 rfl 1 rfl ?_
  refine s_callVv B hsc (c_X2_copyFrom l D g ha h kd2 ka2 ho2 fa2 si2 kn2 aw2 n2 ev2 cr2 tr2 lw2 td2 z2 q2 kd ka ho fa si kn aw n ev cr tr lw td z q) (gw_V ml_X7_18 im_yX2_copyFrom se_yX2_copyFrom ini_RX2 co_yX2_copyFrom) hd_X2_copyFrom rfl rfl ⟨(Nat.le_of_ble_eq_true rfl), (Nat.le_of_ble_eq_true rfl)⟩ [1, 2, 3, 4, 5, 6, 7, 8, 9, 10, 11, 12, 13, 14, 15, 16, 17, 18, 19, 20, 21, 22, 23, 24, 25, 26] [0, 1, 2, 3, 4] rfl rfl rfl (ci := 2) (q0 := 0) rfl rfl rfl rfl rfl (Nat.le_of_ble_eq_true rfl) dX7_dayForGood_5 (fun u hpo => ?_)
  obtain rfl := hpo
  refine s_ws (ws' := [(hT, .inr (7, [.ref (ha 0)])), (ha 0, .inr (2, [.ref (ha 1), .ref (ha 2), .ref (ha 3), .ref (ha 4), .ref (ha 5), .ref (ha 6), .ref (ha 7), .int (nI n), .ref (ha 8), .ref (ha 9), .ref (ha 10), .ref (ha 11), .int (nI td), .int z, .ref (ha 12)])), (ha 1, .inl (g 0, 8, .inl kd)), (ha 2, .inl (g 0, 8, .inl ka)), (ha 3, .inl (g 0, 8, .inl ho)), (ha 4, .inl (g 0, 8, .inl fa)), (ha 5, .inl (g 0, 8, .inl si)), (ha 6, .inl (g 0, 8, .inl kn)), (ha 7, .inl (g 0, 8, .inl aw)), (ha 8, .inl (g 0, 40, .inl ev)), (ha 9, .inl (g 0, 40, .inl cr)), (ha 10, .inl (g 0, 40, .inl tr)), (ha 11, .inl (g 0, 4, .inl lw)), (ha 12, .inr (0, [.int (q2 0), .int (q2 1), .int (q2 2), .int (q2 3), .int (q2 4), .int (q2 5), .int (q2 6), .int (q2 7), .int (q2 8)])), (h 0, .inr (2, [.ref (h 1), .ref (h 2), .ref (h 3), .ref (h 4), .ref (h 5), .ref (h 6), .ref (h 7), .int (nI n), .ref (h 8), .ref (h 9), .ref (h 10), .ref (h 11), .int (nI td), .int z, .ref (h 12)])), (h 1, .inl (g 0, 8, .inl kd)), (h 2, .inl (g 0, 8, .inl ka)), (h 3, .inl (g 0, 8, .inl ho)), (h 4, .inl (g 0, 8, .inl fa)), (h 5, .inl (g 0, 8, .inl si)), (h 6, .inl (g 0, 8, .inl kn)), (h 7, .inl (g 0, 8, .inl aw)), (h 8, .inl (g 0, 40, .inl ev)), (h 9, .inl (g 0, 40, .inl cr)), (h 10, .inl (g 0, 40, .inl tr)), (h 11, .inl (g 0, 4, .inl lw)), (h 12, .inr (0, [.int (q 0), .int (q 1), .int (q 2), .int (q 3), .int (q 4), .int (q 5), .int (q 6), .int (q 7), .int (q 8)]))]) rfl ?_
  refine s_iconst B dX7_dayForGood_8 ic_0 ?_
  refine s_istore_n (lv' := [(3, _), (0, _), (1, _), (2, _)]) B dX7_dayForGood_9 rfl (Nat.le_of_ble_eq_true rfl) rfl ?_
  refine s_lv (lv' := [(0, _), (1, _), (2, _), (3, _)]) [1, 2, 3, 0] rfl ?_
  refine s_lve (lv' := [(0, .ref hT), (1, .ref (h 0)), (2, .int (nI k)), (3, .int (nI 0))]) (by rfl) ?_
  refine s_ws (ws' := [(hT, .inr (7, [.ref (ha 0)])), (ha 0, .inr (2, [.ref (ha 1), .ref (ha 2), .ref (ha 3), .ref (ha 4), .ref (ha 5), .ref (ha 6), .ref (ha 7), .int (nI n), .ref (ha 8), .ref (ha 9), .ref (ha 10), .ref (ha 11), .int (nI (td + 0)), .int z, .ref (ha 12)])), (ha 1, .inl (g 0, 8, .inl kd)), (ha 2, .inl (g 0, 8, .inl ka)), (ha 3, .inl (g 0, 8, .inl ho)), (ha 4, .inl (g 0, 8, .inl fa)), (ha 5, .inl (g 0, 8, .inl si)), (ha 6, .inl (g 0, 8, .inl kn)), (ha 7, .inl (g 0, 8, .inl aw)), (ha 8, .inl (g 0, 40, .inl ev)), (ha 9, .inl (g 0, 40, .inl cr)), (ha 10, .inl (g 0, 40, .inl tr)), (ha 11, .inl (g 0, 4, .inl lw)), (ha 12, .inr (0, [.int (q2 0), .int (q2 1), .int (q2 2), .int (q2 3), .int (q2 4), .int (q2 5), .int (q2 6), .int (q2 7), .int (q2 8)])), (h 0, .inr (2, [.ref (h 1), .ref (h 2), .ref (h 3), .ref (h 4), .ref (h 5), .ref (h 6), .ref (h 7), .int (nI n), .ref (h 8), .ref (h 9), .ref (h 10), .ref (h 11), .int (nI td), .int z, .ref (h 12)])), (h 1, .inl (g 0, 8, .inl kd)), (h 2, .inl (g 0, 8, .inl ka)), (h 3, .inl (g 0, 8, .inl ho)), (h 4, .inl (g 0, 8, .inl fa)), (h 5, .inl (g 0, 8, .inl si)), (h 6, .inl (g 0, 8, .inl kn)), (h 7, .inl (g 0, 8, .inl aw)), (h 8, .inl (g 0, 40, .inl ev)), (h 9, .inl (g 0, 40, .inl cr)), (h 10, .inl (g 0, 40, .inl tr)), (h 11, .inl (g 0, 4, .inl lw)), (h 12, .inr (0, [.int (q 0), .int (q 1), .int (q 2), .int (q 3), .int (q 4), .int (q 5), .int (q 6), .int (q 7), .int (q 8)]))]) (by rfl) ?_
  exact L10 (40 + 1) 0 si kn aw cr tr q2 (by omega) (by omega) rfl (fun j hj => absurd hj (Nat.not_lt_zero j))
