theorem any_range_no {f : Nat → Bool} {k : Nat} (h : ∀ j, j < k → f j = false) : (List.range k).any f = false := by
  simp only [List.any_eq_false, List.mem_range]
  exact fun j hj => by simp [h j hj]
theorem any_range_yes {f : Nat → Bool} {k n : Nat} (h : f k = true) (hk : k < n) : (List.range n).any f = true := by
  simp only [List.any_eq_true, List.mem_range]
  exact ⟨k, hk, h⟩
theorem mFirst_no {f : Nat → Bool} {d : Int32} {k : Nat} (h : ∀ j, j < k → f j = false) : mFirst f d k = d := by
  cases k with
  | zero => rfl
  | succ k =>
    unfold mFirst
    rw [any_range_no (fun j hj => h j (by omega)), h k (by omega)]
    rfl
theorem mFirst_yes {f : Nat → Bool} {d : Int32} {k : Nat} (h : ∀ j, j < k → f j = false) (hk : f k = true) : ∀ n, k < n → mFirst f d n = nI k
  | 0, hn => absurd hn (Nat.not_lt_zero k)
  | n + 1, hn => by
    unfold mFirst
    by_cases e : k = n
    · subst e; rw [any_range_no h, hk]; rfl
    · rw [any_range_yes hk (by omega), mFirst_yes h hk n (by omega)]; rfl
def rmX2_firstWrongDay : Room := { frames := 0, cells := 0, slots := 0, locals := 0 }
theorem hd_X2_firstWrongDay : yX2_firstWrongDay.cls = RX2 ∧ yX2_firstWrongDay.cls ≠ "java/lang/invoke/MethodHandle" ∧ yX2_firstWrongDay.cls ≠ "java/lang/invoke/VarHandle" ∧ (parseMethodDescriptor yX2_firstWrongDay.desc).map (fun d => d.parameters.length) = some 0 := by decide +kernel
set_option maxHeartbeats 4000000 in
set_option maxRecDepth 100000 in
theorem c_X2_firstWrongDay (l : Launch) (D : va_G) (g : Nat → ClassId) (h : Nat → Nat) (kd ka ho fa si kn aw : Nat → Int32) (n : Nat) (ev cr tr lw : Nat → Int32) (td : Nat) (z : Int32) (q : Nat → Int32) : Ci l yX2_firstWrongDay (WW yX2_firstWrongDay cX2_firstWrongDay 2 (some FieldType.int)) rmX2_firstWrongDay D vwCl (TY g) [.ref (h 0)] (SchC g h kd ka ho fa si kn aw n ev cr tr lw td z q) (fun r u => r = mFirst (fun d => decide (¬ cr d = tr d)) (-9) 40 ∧ u = SchC g h kd ka ho fa si kn aw n ev cr tr lw td z q) := by
  refine ci_in (by decide) (Nat.le_of_ble_eq_true rfl) (a0 := [h 0, h 1, h 2, h 3, h 4, h 5, h 6, h 7, h 8, h 9, h 10, h 11, h 12]) rfl (fun p e s m args below meth c A Q hQ B hr hsc => ?_)
  have L2 : ∀ (jj : Nat) (k : Nat), 40 - k < jj → (k ≤ 40) → (∀ j, j < k → (fun d => decide (¬ cr d = tr d)) j = false) → Sx p l e rmX2_firstWrongDay s m args below meth c D vwCl A 2 Q 2 [(0, .ref (h 0)), (1, .int (nI k))] [] [(h 0, .inr (2, [.ref (h 1), .ref (h 2), .ref (h 3), .ref (h 4), .ref (h 5), .ref (h 6), .ref (h 7), .int (nI n), .ref (h 8), .ref (h 9), .ref (h 10), .ref (h 11), .int (nI td), .int z, .ref (h 12)])), (h 1, .inl (g 0, 8, .inl kd)), (h 2, .inl (g 0, 8, .inl ka)), (h 3, .inl (g 0, 8, .inl ho)), (h 4, .inl (g 0, 8, .inl fa)), (h 5, .inl (g 0, 8, .inl si)), (h 6, .inl (g 0, 8, .inl kn)), (h 7, .inl (g 0, 8, .inl aw)), (h 8, .inl (g 0, 40, .inl ev)), (h 9, .inl (g 0, 40, .inl cr)), (h 10, .inl (g 0, 40, .inl tr)), (h 11, .inl (g 0, 4, .inl lw)), (h 12, .inr (0, [.int (q 0), .int (q 1), .int (q 2), .int (q 3), .int (q 4), .int (q 5), .int (q 6), .int (q 7), .int (q 8)]))] := by
    intro jj
    induction jj with
    | zero => intro k hj; exact absurd hj (Nat.not_lt_zero _)
    | succ jj ih =>
      intro k hj hk hno
      refine s_iload_n B dX2_firstWrongDay_2 rfl 1 rfl ?_
      refine s_bipush B dX2_firstWrongDay_3 bp_40 ?_
      refine s_icmp_ge (tgt := 31) B dX2_firstWrongDay_5 rfl (fun h5 => ?_) (fun h5 => ?_)
      · replace h5 : 40 ≤ k := (nI_leI (a := 40) (b := k) (by omega) (by omega)).mp h5
        refine s_bipush B dX2_firstWrongDay_31 bp_m9 ?_
        refine s_iret B hQ hr dX2_firstWrongDay_33 rfl ?_
        have e9 : k = 40 := by omega
        subst e9
        exact ⟨(mFirst_no hno).symm, rfl⟩
      · replace h5 : ¬ 40 ≤ k := fun hh => h5 ((nI_leI (a := 40) (b := k) (by omega) (by omega)).mpr hh)
        refine s_aload_n B dX2_firstWrongDay_8 rfl 0 rfl ?_
        refine s_get (T := TX2) B inX2 0 rfl rfl 9 (Nat.le_of_ble_eq_true rfl) fl_X2_40 rfl rfl dX2_firstWrongDay_9 ?_
        refine s_iload_n B dX2_firstWrongDay_12 rfl 1 rfl ?_
        refine s_ialdN B 9 0 rfl rfl dX2_firstWrongDay_13 (by omega) (by decide) ?_
        refine s_aload_n B dX2_firstWrongDay_14 rfl 0 rfl ?_
        refine s_get (T := TX2) B inX2 0 rfl rfl 10 (Nat.le_of_ble_eq_true rfl) fl_X2_43 rfl rfl dX2_firstWrongDay_15 ?_
        refine s_iload_n B dX2_firstWrongDay_18 rfl 1 rfl ?_
        refine s_ialdN B 10 0 rfl rfl dX2_firstWrongDay_19 (by omega) (by decide) ?_
        refine s_icmp_eq (tgt := 25) B dX2_firstWrongDay_20 rfl (fun h20 => ?_) (fun h20 => ?_)
        · refine s_iinc (lv' := [(1, _), (0, _)]) (k := 1) B dX2_firstWrongDay_25 rfl (ii_n _) (Nat.le_of_ble_eq_true rfl) rfl ?_
          refine s_goto (tgt := 2) B dX2_firstWrongDay_28 rfl ?_
          refine s_lv (lv' := [(0, _), (1, _)]) [1, 0] rfl ?_
          exact ih (k + 1) (by omega) (by omega) (fun j hj => by by_cases e : j = k; (subst e; simp [h20]); exact hno j (by omega))
        · refine s_iload_n B dX2_firstWrongDay_23 rfl 1 rfl ?_
          refine s_iret B hQ hr dX2_firstWrongDay_24 rfl ?_
          exact ⟨(mFirst_yes hno (by simp [h20]) 40 (by omega)).symm, rfl⟩
  refine s_iconst B dX2_firstWrongDay_0 ic_0 ?_
  refine s_istore_n (lv' := [(1, _), (0, _)]) B dX2_firstWrongDay_1 rfl (Nat.le_of_ble_eq_true rfl) rfl ?_
  refine s_lv (lv' := [(0, _), (1, _)]) [1, 0] rfl ?_
  refine s_lve (lv' := [(0, .ref (h 0)), (1, .int (nI 0))]) (by rfl) ?_
  exact L2 (40 + 1) 0 (by omega) (by omega) (fun j hj => absurd hj (Nat.not_lt_zero j))
def rmX2_bookFits : Room := { frames := 1, cells := 0, slots := 0, locals := 24 }
theorem hd_X2_bookFits : yX2_bookFits.cls = RX2 ∧ yX2_bookFits.cls ≠ "java/lang/invoke/MethodHandle" ∧ yX2_bookFits.cls ≠ "java/lang/invoke/VarHandle" ∧ (parseMethodDescriptor yX2_bookFits.desc).map (fun d => d.parameters.length) = some 3 := by decide +kernel
set_option maxHeartbeats 4000000 in
set_option maxRecDepth 100000 in
theorem c_X2_bookFits (l : Launch) (D : va_G) (g : Nat → ClassId) (h : Nat → Nat) (kd ka ho fa si kn aw : Nat → Int32) (n : Nat) (ev cr tr lw : Nat → Int32) (td : Nat) (z : Int32) (q : Nat → Int32) (k : Nat) (a0 a1 : Int32) (htd : td ≤ 40) (hk : k < 8) : Ci l yX2_bookFits (WW yX2_bookFits cX2_bookFits 8 (some FieldType.boolean)) rmX2_bookFits D vwCl (TY g) [.ref (h 0), .int (nI k), .int a0, .int a1] (SchC g h kd ka ho fa si kn aw n ev cr tr lw td z q) (fun r u => r = (if mOfKind cr ev k (fa k) (lw 1) a0 a1 td then 1 else 0) ∧ ∃ q1, u = SchC g h kd ka ho fa si kn aw n ev cr tr lw td z q1) := by
  refine ci_in (by decide) (Nat.le_of_ble_eq_true rfl) (a0 := [h 0, h 1, h 2, h 3, h 4, h 5, h 6, h 7, h 8, h 9, h 10, h 11, h 12]) rfl (fun p e s m args below meth c A Q hQ B hr hsc => ?_)
  have L81 : ∀ (jj : Nat) (d : Nat) (x1 x2 x3 : Int32), td - d < jj → (d ≤ td) → (mAll (mDayFits cr ev k (fa k) (lw 1) a0 a1) d = true) → Sx p l e rmX2_bookFits s m args below meth c D vwCl A 8 Q 81 [(0, .ref (h 0)), (1, .int (nI k)), (2, .int a0), (3, .int a1), (4, .int (if (a0 = 2) ∨ ((¬ a0 = 2) ∧ (a0 = 5)) then 1 else 0)), (5, .int (mRun (fun d => mBit (cr d) k) d)), (6, .int (nI d))] [] [(h 0, .inr (2, [.ref (h 1), .ref (h 2), .ref (h 3), .ref (h 4), .ref (h 5), .ref (h 6), .ref (h 7), .int (nI n), .ref (h 8), .ref (h 9), .ref (h 10), .ref (h 11), .int (nI td), .int z, .ref (h 12)])), (h 1, .inl (g 0, 8, .inl kd)), (h 2, .inl (g 0, 8, .inl ka)), (h 3, .inl (g 0, 8, .inl ho)), (h 4, .inl (g 0, 8, .inl fa)), (h 5, .inl (g 0, 8, .inl si)), (h 6, .inl (g 0, 8, .inl kn)), (h 7, .inl (g 0, 8, .inl aw)), (h 8, .inl (g 0, 40, .inl ev)), (h 9, .inl (g 0, 40, .inl cr)), (h 10, .inl (g 0, 40, .inl tr)), (h 11, .inl (g 0, 4, .inl lw)), (h 12, .inr (0, [.int a0, .int a1, .int (fa k), .int 0, .int 0, .int x3, .int x1, .int x2, .int (lw 1)]))] := by
    intro jj
    induction jj with
    | zero => intro d x1 x2 x3 hj; exact absurd hj (Nat.not_lt_zero _)
    | succ jj ih =>
      intro d x1 x2 x3 hj hd hall
      have M175 : (¬ td ≤ d) → (¬ 40 ≤ d) → (((¬ (if mBit (cr d) k = true then 1 else 0) = (if mAway a0 a1 (fa k) (nI d) (ev d) false false (mRun (fun d => mBit (cr d) k) d) (lw 1) = true then 1 else 0))) ∨ (((if mBit (cr d) k = true then 1 else 0) = (if mAway a0 a1 (fa k) (nI d) (ev d) false false (mRun (fun d => mBit (cr d) k) d) (lw 1) = true then 1 else 0)) ∧ (¬ (mBit (cr d) k = true)) ∧ ((a0 = 2) ∨ ((¬ a0 = 2) ∧ (a0 = 5))))) → (((¬ (mBit (cr d) k = true))) ∨ ((mBit (cr d) k = true))) → Sx p l e rmX2_bookFits s m args below meth c D vwCl A 8 Q 175 [(0, .ref (h 0)), (1, .int (nI k)), (2, .int a0), (3, .int a1), (4, .int (if (a0 = 2) ∨ ((¬ a0 = 2) ∧ (a0 = 5)) then 1 else 0)), (5, .int (mRun (fun d => mBit (cr d) k) d)), (6, .int (nI d)), (7, .int (if mBit (cr d) k = true then 1 else 0))] [.int (if ¬ (mBit (cr d) k = true) then (mRun (fun d => mBit (cr d) k) d) + 1 else 0)] [(h 0, .inr (2, [.ref (h 1), .ref (h 2), .ref (h 3), .ref (h 4), .ref (h 5), .ref (h 6), .ref (h 7), .int (nI n), .ref (h 8), .ref (h 9), .ref (h 10), .ref (h 11), .int (nI td), .int z, .ref (h 12)])), (h 1, .inl (g 0, 8, .inl kd)), (h 2, .inl (g 0, 8, .inl ka)), (h 3, .inl (g 0, 8, .inl ho)), (h 4, .inl (g 0, 8, .inl fa)), (h 5, .inl (g 0, 8, .inl si)), (h 6, .inl (g 0, 8, .inl kn)), (h 7, .inl (g 0, 8, .inl aw)), (h 8, .inl (g 0, 40, .inl ev)), (h 9, .inl (g 0, 40, .inl cr)), (h 10, .inl (g 0, 40, .inl tr)), (h 11, .inl (g 0, 4, .inl lw)), (h 12, .inr (0, [.int a0, .int a1, .int (fa k), .int 0, .int 0, .int (mRun (fun d => mBit (cr d) k) d), .int (nI d), .int (ev d), .int (lw 1)]))] := by
        intro hm175_0 hm175_1 hm175_2 hm175_3
        refine s_istore (lv' := [(5, _), (0, _), (1, _), (2, _), (3, _), (4, _), (6, _), (7, _)]) B dX2_bookFits_175 (Nat.le_of_ble_eq_true rfl) rfl ?_
        refine s_iinc (lv' := [(6, _), (5, _), (0, _), (1, _), (2, _), (3, _), (4, _), (7, _)]) (k := 6) B dX2_bookFits_177 rfl (ii_n _) (Nat.le_of_ble_eq_true rfl) rfl ?_
        refine s_goto (tgt := 81) B dX2_bookFits_180 rfl ?_
        refine s_lv (lv' := [(0, _), (1, _), (2, _), (3, _), (4, _), (5, _), (6, _)]) [2, 3, 4, 5, 6, 1, 0] rfl ?_
        refine s_lve (lv' := [(0, .ref (h 0)), (1, .int (nI k)), (2, .int a0), (3, .int a1), (4, .int (if (a0 = 2) ∨ ((¬ a0 = 2) ∧ (a0 = 5)) then 1 else 0)), (5, .int (mRun (fun d => mBit (cr d) k) (d + 1))), (6, .int (nI (d + 1)))]) (by clear ih hQ B hr hsc; grind [mRun]) ?_
        exact ih (d + 1) (nI d) (ev d) (mRun (fun d => mBit (cr d) k) d) (by omega) (by omega) (by have hx : mDayFits cr ev k (fa k) (lw 1) a0 a1 d = true := (by clear ih hQ B hr hsc; unfold mDayFits; grind); unfold mAll; rw [hall, hx]; rfl)
      have M162 : (¬ td ≤ d) → (¬ 40 ≤ d) → (((¬ (if mBit (cr d) k = true then 1 else 0) = (if mAway a0 a1 (fa k) (nI d) (ev d) false false (mRun (fun d => mBit (cr d) k) d) (lw 1) = true then 1 else 0))) ∨ (((if mBit (cr d) k = true then 1 else 0) = (if mAway a0 a1 (fa k) (nI d) (ev d) false false (mRun (fun d => mBit (cr d) k) d) (lw 1) = true then 1 else 0)) ∧ (¬ (mBit (cr d) k = true)) ∧ ((a0 = 2) ∨ ((¬ a0 = 2) ∧ (a0 = 5))))) → Sx p l e rmX2_bookFits s m args below meth c D vwCl A 8 Q 162 [(0, .ref (h 0)), (1, .int (nI k)), (2, .int a0), (3, .int a1), (4, .int (if (a0 = 2) ∨ ((¬ a0 = 2) ∧ (a0 = 5)) then 1 else 0)), (5, .int (mRun (fun d => mBit (cr d) k) d)), (6, .int (nI d)), (7, .int (if mBit (cr d) k = true then 1 else 0))] [] [(h 0, .inr (2, [.ref (h 1), .ref (h 2), .ref (h 3), .ref (h 4), .ref (h 5), .ref (h 6), .ref (h 7), .int (nI n), .ref (h 8), .ref (h 9), .ref (h 10), .ref (h 11), .int (nI td), .int z, .ref (h 12)])), (h 1, .inl (g 0, 8, .inl kd)), (h 2, .inl (g 0, 8, .inl ka)), (h 3, .inl (g 0, 8, .inl ho)), (h 4, .inl (g 0, 8, .inl fa)), (h 5, .inl (g 0, 8, .inl si)), (h 6, .inl (g 0, 8, .inl kn)), (h 7, .inl (g 0, 8, .inl aw)), (h 8, .inl (g 0, 40, .inl ev)), (h 9, .inl (g 0, 40, .inl cr)), (h 10, .inl (g 0, 40, .inl tr)), (h 11, .inl (g 0, 4, .inl lw)), (h 12, .inr (0, [.int a0, .int a1, .int (fa k), .int 0, .int 0, .int (mRun (fun d => mBit (cr d) k) d), .int (nI d), .int (ev d), .int (lw 1)]))] := by
        intro hm162_0 hm162_1 hm162_2
        refine s_iload B dX2_bookFits_162 7 rfl ?_
        refine s_bif_eq (tgt := 171) B dX2_bookFits_164 rfl (fun h164 => ?_) (fun h164 => ?_)
        · refine s_iload B dX2_bookFits_171 5 rfl ?_
          refine s_iconst B dX2_bookFits_173 ic_1 ?_
          refine s_iadd B dX2_bookFits_174 ?_
          refine s_lv (lv' := [(0, _), (1, _), (2, _), (3, _), (4, _), (5, _), (6, _), (7, _)]) [0, 1, 2, 3, 4, 5, 6, 7] rfl ?_
          refine s_st (st' := [.int (if ¬ (mBit (cr d) k = true) then (mRun (fun d => mBit (cr d) k) d) + 1 else 0)]) (by first | (simp only [if_pos hm162_0, if_neg hm162_0, if_pos hm162_1, if_neg hm162_1, if_pos hm162_2, if_pos h164, if_neg h164]; done) | (clear hQ B hr hsc; grind)) ?_
          exact M175 hm162_0 hm162_1 hm162_2 (by clear hQ B hr hsc; grind)
        · refine s_iconst B dX2_bookFits_167 ic_0 ?_
          refine s_goto (tgt := 175) B dX2_bookFits_168 rfl ?_
          refine s_lv (lv' := [(0, _), (1, _), (2, _), (3, _), (4, _), (5, _), (6, _), (7, _)]) [0, 1, 2, 3, 4, 5, 6, 7] rfl ?_
          refine s_st (st' := [.int (if ¬ (mBit (cr d) k = true) then (mRun (fun d => mBit (cr d) k) d) + 1 else 0)]) (by first | (simp only [if_pos hm162_0, if_neg hm162_0, if_pos hm162_1, if_neg hm162_1, if_pos hm162_2, if_pos h164]; done) | (clear hQ B hr hsc; grind)) ?_
          exact M175 hm162_0 hm162_1 hm162_2 (by clear hQ B hr hsc; grind)
      refine s_iload B dX2_bookFits_81 6 rfl ?_
      refine s_aload_n B dX2_bookFits_83 rfl 0 rfl ?_
      refine s_get (T := TX2) B inX2 0 rfl rfl 12 (Nat.le_of_ble_eq_true rfl) fl_X2_49 rfl rfl dX2_bookFits_84 ?_
      refine s_icmp_ge (tgt := 183) B dX2_bookFits_87 rfl (fun h87 => ?_) (fun h87 => ?_)
      · replace h87 : td ≤ d := (nI_leI (a := td) (b := d) (by omega) (by omega)).mp h87
        refine s_iconst B dX2_bookFits_183 ic_1 ?_
        refine s_zret B hQ hr dX2_bookFits_184 rfl rfl ?_
        have e9 : d = td := by omega
        subst e9
        refine ⟨?_, (fun j => ([a0, a1, fa k, 0, 0, x3, x1, x2, lw 1] : List Int32).getD j 0), rfl⟩
        unfold mOfKind; rw [hall]; rfl
      · replace h87 : ¬ td ≤ d := fun hh => h87 ((nI_leI (a := td) (b := d) (by omega) (by omega)).mpr hh)
        refine s_iload B dX2_bookFits_90 6 rfl ?_
        refine s_bipush B dX2_bookFits_92 bp_40 ?_
        refine s_icmp_ge (tgt := 183) B dX2_bookFits_94 rfl (fun h94 => ?_) (fun h94 => ?_)
        · replace h94 : 40 ≤ d := (nI_leI (a := 40) (b := d) (by omega) (by omega)).mp h94
          refine s_iconst B dX2_bookFits_183 ic_1 ?_
          refine s_zret B hQ hr dX2_bookFits_184 rfl rfl ?_
          have e9 : d = td := by omega
          subst e9
          refine ⟨?_, (fun j => ([a0, a1, fa k, 0, 0, x3, x1, x2, lw 1] : List Int32).getD j 0), rfl⟩
          unfold mOfKind; rw [hall]; rfl
        · replace h94 : ¬ 40 ≤ d := fun hh => h94 ((nI_leI (a := 40) (b := d) (by omega) (by omega)).mpr hh)
          refine s_aload_n B dX2_bookFits_97 rfl 0 rfl ?_
          refine s_iload B dX2_bookFits_98 6 rfl ?_
          refine s_iload_n B dX2_bookFits_100 rfl 1 rfl ?_
          refine s_callVi B hsc (c_X2_hasCross l D g h kd ka ho fa si kn aw n ev cr tr lw td z (fun j => ([a0, a1, fa k, 0, 0, x3, x1, x2, lw 1] : List Int32).getD j 0) d (nI k) (by omega)) (gw_V ml_X2_129 im_yX2_hasCross se_yX2_hasCross ini_RX2 co_yX2_hasCross) hd_X2_hasCross rfl rfl ⟨(Nat.le_of_ble_eq_true rfl), (Nat.le_of_ble_eq_true rfl)⟩ [0, 1, 2, 3, 4, 5, 6, 7, 8, 9, 10, 11, 12] [0, 1, 2, 3, 4] rfl rfl rfl (ci := 2) (q0 := 0) rfl rfl rfl rfl rfl (Nat.le_of_ble_eq_true rfl) dX2_bookFits_101 (fun r u hpo => ?_)
          obtain ⟨rfl, rfl⟩ := hpo
          refine s_st (st' := [.int (if mBit (cr d) k = true then 1 else 0)]) rfl ?_
          refine s_ws (ws' := [(h 0, .inr (2, [.ref (h 1), .ref (h 2), .ref (h 3), .ref (h 4), .ref (h 5), .ref (h 6), .ref (h 7), .int (nI n), .ref (h 8), .ref (h 9), .ref (h 10), .ref (h 11), .int (nI td), .int z, .ref (h 12)])), (h 1, .inl (g 0, 8, .inl kd)), (h 2, .inl (g 0, 8, .inl ka)), (h 3, .inl (g 0, 8, .inl ho)), (h 4, .inl (g 0, 8, .inl fa)), (h 5, .inl (g 0, 8, .inl si)), (h 6, .inl (g 0, 8, .inl kn)), (h 7, .inl (g 0, 8, .inl aw)), (h 8, .inl (g 0, 40, .inl ev)), (h 9, .inl (g 0, 40, .inl cr)), (h 10, .inl (g 0, 40, .inl tr)), (h 11, .inl (g 0, 4, .inl lw)), (h 12, .inr (0, [.int a0, .int a1, .int (fa k), .int 0, .int 0, .int x3, .int x1, .int x2, .int (lw 1)]))]) rfl ?_
          refine s_istore (lv' := [(7, _), (0, _), (1, _), (2, _), (3, _), (4, _), (5, _), (6, _)]) B dX2_bookFits_104 (Nat.le_of_ble_eq_true rfl) rfl ?_
          refine s_aload_n B dX2_bookFits_106 rfl 1 rfl ?_
          refine s_get (T := TX2) B inX2 0 rfl rfl 14 (Nat.le_of_ble_eq_true rfl) fl_X2_58 rfl rfl dX2_bookFits_107 ?_
          refine s_iload B dX2_bookFits_110 7 rfl ?_
          refine s_put (T := TX0) (ws' := [_, _, _, _, _, _, _, _, _, _, _, _, _]) B inX0 tyX0_ok nmX0 12 rfl rfl 6 (Nat.le_of_ble_eq_true rfl) fl_X2_87 rfl rfl rfl rfl (Nat.le_of_ble_eq_true rfl) rfl dX2_bookFits_112 ?_
          refine s_aload_n B dX2_bookFits_115 rfl 1 rfl ?_
          refine s_get (T := TX2) B inX2 0 rfl rfl 14 (Nat.le_of_ble_eq_true rfl) fl_X2_58 rfl rfl dX2_bookFits_116 ?_
          refine s_aload_n B dX2_bookFits_119 rfl 1 rfl ?_
          refine s_get (T := TX2) B inX2 0 rfl rfl 8 (Nat.le_of_ble_eq_true rfl) fl_X2_37 rfl rfl dX2_bookFits_120 ?_
          refine s_iload B dX2_bookFits_123 7 rfl ?_
          refine s_ialdN B 8 0 rfl rfl dX2_bookFits_125 (by omega) (by decide) ?_
          refine s_put (T := TX0) (ws' := [_, _, _, _, _, _, _, _, _, _, _, _, _]) B inX0 tyX0_ok nmX0 12 rfl rfl 7 (Nat.le_of_ble_eq_true rfl) fl_X2_90 rfl rfl rfl rfl (Nat.le_of_ble_eq_true rfl) rfl dX2_bookFits_126 ?_
          refine s_aload_n B dX2_bookFits_129 rfl 1 rfl ?_
          refine s_get (T := TX2) B inX2 0 rfl rfl 14 (Nat.le_of_ble_eq_true rfl) fl_X2_58 rfl rfl dX2_bookFits_130 ?_
          refine s_iload B dX2_bookFits_133 6 rfl ?_
          refine s_put (T := TX0) (ws' := [_, _, _, _, _, _, _, _, _, _, _, _, _]) B inX0 tyX0_ok nmX0 12 rfl rfl 5 (Nat.le_of_ble_eq_true rfl) fl_X2_85 rfl rfl rfl rfl (Nat.le_of_ble_eq_true rfl) rfl dX2_bookFits_135 ?_
          refine s_iload B dX2_bookFits_138 0 rfl ?_
          refine s_aload_n B dX2_bookFits_140 rfl 1 rfl ?_
          refine s_get (T := TX2) B inX2 0 rfl rfl 14 (Nat.le_of_ble_eq_true rfl) fl_X2_58 rfl rfl dX2_bookFits_141 ?_
          refine s_callVi B hsc (c_X0_isSo l D g (h 12) (fun j => ([a0, a1, fa k, 0, 0, mRun (fun d => mBit (cr d) k) d, nI d, ev d, lw 1] : List Int32).getD j 0)) (gw_V ml_X2_95 im_yX0_isSo se_yX0_isSo ini_RX0 co_yX0_isSo) hd_X0_isSo rfl rfl ⟨(Nat.le_of_ble_eq_true rfl), (Nat.le_of_ble_eq_true rfl)⟩ [12] [0, 1, 2, 3, 4] rfl rfl rfl (ci := 0) (q0 := 0) rfl rfl rfl rfl rfl (Nat.le_of_ble_eq_true rfl) dX2_bookFits_144 (fun r u hpo => ?_)
          obtain ⟨rfl, rfl⟩ := hpo
          refine s_st (st' := [.int (if mAway a0 a1 (fa k) (nI d) (ev d) false false (mRun (fun d => mBit (cr d) k) d) (lw 1) = true then 1 else 0), .int (if mBit (cr d) k = true then 1 else 0)]) rfl ?_
          refine s_ws (ws' := [(h 0, .inr (2, [.ref (h 1), .ref (h 2), .ref (h 3), .ref (h 4), .ref (h 5), .ref (h 6), .ref (h 7), .int (nI n), .ref (h 8), .ref (h 9), .ref (h 10), .ref (h 11), .int (nI td), .int z, .ref (h 12)])), (h 1, .inl (g 0, 8, .inl kd)), (h 2, .inl (g 0, 8, .inl ka)), (h 3, .inl (g 0, 8, .inl ho)), (h 4, .inl (g 0, 8, .inl fa)), (h 5, .inl (g 0, 8, .inl si)), (h 6, .inl (g 0, 8, .inl kn)), (h 7, .inl (g 0, 8, .inl aw)), (h 8, .inl (g 0, 40, .inl ev)), (h 9, .inl (g 0, 40, .inl cr)), (h 10, .inl (g 0, 40, .inl tr)), (h 11, .inl (g 0, 4, .inl lw)), (h 12, .inr (0, [.int a0, .int a1, .int (fa k), .int 0, .int 0, .int (mRun (fun d => mBit (cr d) k) d), .int (nI d), .int (ev d), .int (lw 1)]))]) rfl ?_
          refine s_icmp_ne (tgt := 162) B dX2_bookFits_147 rfl (fun h147 => ?_) (fun h147 => ?_)
          · refine s_lv (lv' := [(0, _), (1, _), (2, _), (3, _), (4, _), (5, _), (6, _), (7, _)]) [1, 2, 3, 4, 5, 6, 7, 0] rfl ?_
            exact M162 h87 h94 (by clear hQ B hr hsc; grind)
          · refine s_iload B dX2_bookFits_150 0 rfl ?_
            refine s_bif_ne (tgt := 160) B dX2_bookFits_152 rfl (fun h152 => ?_) (fun h152 => ?_)
            · refine s_iconst B dX2_bookFits_160 ic_0 ?_
              refine s_zret B hQ hr dX2_bookFits_161 rfl rfl ?_
              refine ⟨?_, (fun j => ([a0, a1, fa k, 0, 0, mRun (fun d => mBit (cr d) k) d, nI d, ev d, lw 1] : List Int32).getD j 0), rfl⟩
              have hx : mDayFits cr ev k (fa k) (lw 1) a0 a1 d = false := by clear ih hQ B hr hsc; unfold mDayFits; grind
              unfold mOfKind; rw [mAll_no hx td (by omega)]; rfl
            · refine s_iload B dX2_bookFits_155 5 rfl ?_
              refine s_bif_ne (tgt := 162) B dX2_bookFits_157 rfl (fun h157 => ?_) (fun h157 => ?_)
              · refine s_lv (lv' := [(0, _), (1, _), (2, _), (3, _), (4, _), (5, _), (6, _), (7, _)]) [1, 2, 3, 4, 5, 6, 7, 0] rfl ?_
                exact M162 h87 h94 (by clear hQ B hr hsc; grind)
              · refine s_iconst B dX2_bookFits_160 ic_0 ?_
                refine s_zret B hQ hr dX2_bookFits_161 rfl rfl ?_
                refine ⟨?_, (fun j => ([a0, a1, fa k, 0, 0, mRun (fun d => mBit (cr d) k) d, nI d, ev d, lw 1] : List Int32).getD j 0), rfl⟩
                have hx : mDayFits cr ev k (fa k) (lw 1) a0 a1 d = false := by clear ih hQ B hr hsc; unfold mDayFits; grind
                unfold mOfKind; rw [mAll_no hx td (by omega)]; rfl
  have M15 : (((¬ a0 = 2) ∧ (¬ a0 = 5)) ∨ ((((a0 = 2)) ∨ ((¬ a0 = 2) ∧ (a0 = 5))))) → Sx p l e rmX2_bookFits s m args below meth c D vwCl A 8 Q 15 [(0, .ref (h 0)), (1, .int (nI k)), (2, .int a0), (3, .int a1)] [.int (if ((a0 = 2)) ∨ ((¬ a0 = 2) ∧ (a0 = 5)) then 1 else 0)] [(h 0, .inr (2, [.ref (h 1), .ref (h 2), .ref (h 3), .ref (h 4), .ref (h 5), .ref (h 6), .ref (h 7), .int (nI n), .ref (h 8), .ref (h 9), .ref (h 10), .ref (h 11), .int (nI td), .int z, .ref (h 12)])), (h 1, .inl (g 0, 8, .inl kd)), (h 2, .inl (g 0, 8, .inl ka)), (h 3, .inl (g 0, 8, .inl ho)), (h 4, .inl (g 0, 8, .inl fa)), (h 5, .inl (g 0, 8, .inl si)), (h 6, .inl (g 0, 8, .inl kn)), (h 7, .inl (g 0, 8, .inl aw)), (h 8, .inl (g 0, 40, .inl ev)), (h 9, .inl (g 0, 40, .inl cr)), (h 10, .inl (g 0, 40, .inl tr)), (h 11, .inl (g 0, 4, .inl lw)), (h 12, .inr (0, [.int (q 0), .int (q 1), .int (q 2), .int (q 3), .int (q 4), .int (q 5), .int (q 6), .int (q 7), .int (q 8)]))] := by
    intro hm15_0
    refine s_istore (lv' := [(4, _), (0, _), (1, _), (2, _), (3, _)]) B dX2_bookFits_15 (Nat.le_of_ble_eq_true rfl) rfl ?_
    refine s_aload_n B dX2_bookFits_17 rfl 1 rfl ?_
    refine s_get (T := TX2) B inX2 0 rfl rfl 14 (Nat.le_of_ble_eq_true rfl) fl_X2_58 rfl rfl dX2_bookFits_18 ?_
    refine s_iload_n B dX2_bookFits_21 rfl 3 rfl ?_
    refine s_put (T := TX0) (ws' := [_, _, _, _, _, _, _, _, _, _, _, _, _]) B inX0 tyX0_ok nmX0 12 rfl rfl 0 (Nat.le_of_ble_eq_true rfl) fl_X2_75 rfl rfl rfl rfl (Nat.le_of_ble_eq_true rfl) rfl dX2_bookFits_22 ?_
    refine s_aload_n B dX2_bookFits_25 rfl 1 rfl ?_
    refine s_get (T := TX2) B inX2 0 rfl rfl 14 (Nat.le_of_ble_eq_true rfl) fl_X2_58 rfl rfl dX2_bookFits_26 ?_
    refine s_iload_n B dX2_bookFits_29 rfl 4 rfl ?_
    refine s_put (T := TX0) (ws' := [_, _, _, _, _, _, _, _, _, _, _, _, _]) B inX0 tyX0_ok nmX0 12 rfl rfl 1 (Nat.le_of_ble_eq_true rfl) fl_X2_77 rfl rfl rfl rfl (Nat.le_of_ble_eq_true rfl) rfl dX2_bookFits_30 ?_
    refine s_aload_n B dX2_bookFits_33 rfl 1 rfl ?_
    refine s_get (T := TX2) B inX2 0 rfl rfl 14 (Nat.le_of_ble_eq_true rfl) fl_X2_58 rfl rfl dX2_bookFits_34 ?_
    refine s_aload_n B dX2_bookFits_37 rfl 1 rfl ?_
    refine s_get (T := TX2) B inX2 0 rfl rfl 3 (Nat.le_of_ble_eq_true rfl) fl_X2_21 rfl rfl dX2_bookFits_38 ?_
    refine s_iload_n B dX2_bookFits_41 rfl 2 rfl ?_
    refine s_ialdN B 4 0 rfl rfl dX2_bookFits_42 (by omega) (by decide) ?_
    refine s_put (T := TX0) (ws' := [_, _, _, _, _, _, _, _, _, _, _, _, _]) B inX0 tyX0_ok nmX0 12 rfl rfl 2 (Nat.le_of_ble_eq_true rfl) fl_X2_79 rfl rfl rfl rfl (Nat.le_of_ble_eq_true rfl) rfl dX2_bookFits_43 ?_
    refine s_aload_n B dX2_bookFits_46 rfl 1 rfl ?_
    refine s_get (T := TX2) B inX2 0 rfl rfl 14 (Nat.le_of_ble_eq_true rfl) fl_X2_58 rfl rfl dX2_bookFits_47 ?_
    refine s_iconst B dX2_bookFits_50 ic_0 ?_
    refine s_put (T := TX0) (ws' := [_, _, _, _, _, _, _, _, _, _, _, _, _]) B inX0 tyX0_ok nmX0 12 rfl rfl 3 (Nat.le_of_ble_eq_true rfl) fl_X2_81 rfl rfl rfl rfl (Nat.le_of_ble_eq_true rfl) rfl dX2_bookFits_51 ?_
    refine s_aload_n B dX2_bookFits_54 rfl 1 rfl ?_
    refine s_get (T := TX2) B inX2 0 rfl rfl 14 (Nat.le_of_ble_eq_true rfl) fl_X2_58 rfl rfl dX2_bookFits_55 ?_
    refine s_iconst B dX2_bookFits_58 ic_0 ?_
    refine s_put (T := TX0) (ws' := [_, _, _, _, _, _, _, _, _, _, _, _, _]) B inX0 tyX0_ok nmX0 12 rfl rfl 4 (Nat.le_of_ble_eq_true rfl) fl_X2_83 rfl rfl rfl rfl (Nat.le_of_ble_eq_true rfl) rfl dX2_bookFits_59 ?_
    refine s_aload_n B dX2_bookFits_62 rfl 1 rfl ?_
    refine s_get (T := TX2) B inX2 0 rfl rfl 14 (Nat.le_of_ble_eq_true rfl) fl_X2_58 rfl rfl dX2_bookFits_63 ?_
    refine s_aload_n B dX2_bookFits_66 rfl 1 rfl ?_
    refine s_get (T := TX2) B inX2 0 rfl rfl 11 (Nat.le_of_ble_eq_true rfl) fl_X2_46 rfl rfl dX2_bookFits_67 ?_
    refine s_iconst B dX2_bookFits_70 ic_1 ?_
    refine s_ialdN B 11 0 rfl rfl dX2_bookFits_71 (by decide) (by decide) ?_
    refine s_put (T := TX0) (ws' := [_, _, _, _, _, _, _, _, _, _, _, _, _]) B inX0 tyX0_ok nmX0 12 rfl rfl 8 (Nat.le_of_ble_eq_true rfl) fl_X2_92 rfl rfl rfl rfl (Nat.le_of_ble_eq_true rfl) rfl dX2_bookFits_72 ?_
    refine s_iconst B dX2_bookFits_75 ic_0 ?_
    refine s_istore (lv' := [(5, _), (4, _), (0, _), (1, _), (2, _), (3, _)]) B dX2_bookFits_76 (Nat.le_of_ble_eq_true rfl) rfl ?_
    refine s_iconst B dX2_bookFits_78 ic_0 ?_
    refine s_istore (lv' := [(6, _), (5, _), (4, _), (0, _), (1, _), (2, _), (3, _)]) B dX2_bookFits_79 (Nat.le_of_ble_eq_true rfl) rfl ?_
    refine s_lv (lv' := [(0, _), (1, _), (2, _), (3, _), (4, _), (5, _), (6, _)]) [3, 4, 5, 6, 2, 1, 0] rfl ?_
    refine s_lve (lv' := [(0, .ref (h 0)), (1, .int (nI k)), (2, .int a0), (3, .int a1), (4, .int (if (a0 = 2) ∨ ((¬ a0 = 2) ∧ (a0 = 5)) then 1 else 0)), (5, .int (mRun (fun d => mBit (cr d) k) 0)), (6, .int (nI 0))]) (by rfl) ?_
    exact L81 (td + 1) 0 (q 6) (q 7) (q 5) (by omega) (by omega) rfl
  have M10 : (((a0 = 2)) ∨ ((¬ a0 = 2) ∧ (a0 = 5))) → Sx p l e rmX2_bookFits s m args below meth c D vwCl A 8 Q 10 [(0, .ref (h 0)), (1, .int (nI k)), (2, .int a0), (3, .int a1)] [] [(h 0, .inr (2, [.ref (h 1), .ref (h 2), .ref (h 3), .ref (h 4), .ref (h 5), .ref (h 6), .ref (h 7), .int (nI n), .ref (h 8), .ref (h 9), .ref (h 10), .ref (h 11), .int (nI td), .int z, .ref (h 12)])), (h 1, .inl (g 0, 8, .inl kd)), (h 2, .inl (g 0, 8, .inl ka)), (h 3, .inl (g 0, 8, .inl ho)), (h 4, .inl (g 0, 8, .inl fa)), (h 5, .inl (g 0, 8, .inl si)), (h 6, .inl (g 0, 8, .inl kn)), (h 7, .inl (g 0, 8, .inl aw)), (h 8, .inl (g 0, 40, .inl ev)), (h 9, .inl (g 0, 40, .inl cr)), (h 10, .inl (g 0, 40, .inl tr)), (h 11, .inl (g 0, 4, .inl lw)), (h 12, .inr (0, [.int (q 0), .int (q 1), .int (q 2), .int (q 3), .int (q 4), .int (q 5), .int (q 6), .int (q 7), .int (q 8)]))] := by
    intro hm10_0
    refine s_iconst B dX2_bookFits_10 ic_1 ?_
    refine s_goto (tgt := 15) B dX2_bookFits_11 rfl ?_
    refine s_lv (lv' := [(0, _), (1, _), (2, _), (3, _)]) [0, 1, 2, 3] rfl ?_
    refine s_st (st' := [.int (if ((a0 = 2)) ∨ ((¬ a0 = 2) ∧ (a0 = 5)) then 1 else 0)]) (by first | (simp only [if_pos hm10_0]; done) | (clear hQ B hr hsc; grind)) ?_
    exact M15 (by clear hQ B hr hsc; grind)
  refine s_iload_n B dX2_bookFits_0 rfl 2 rfl ?_
  refine s_iconst B dX2_bookFits_1 ic_2 ?_
  refine s_icmp_eq (tgt := 10) B dX2_bookFits_2 rfl (fun h2 => ?_) (fun h2 => ?_)
  · refine s_lv (lv' := [(0, _), (1, _), (2, _), (3, _)]) [0, 1, 2, 3] rfl ?_
    exact M10 (by clear hQ B hr hsc; grind)
  · refine s_iload_n B dX2_bookFits_5 rfl 2 rfl ?_
    refine s_iconst B dX2_bookFits_6 ic_5 ?_
    refine s_icmp_ne (tgt := 14) B dX2_bookFits_7 rfl (fun h7 => ?_) (fun h7 => ?_)
    · refine s_iconst B dX2_bookFits_14 ic_0 ?_
      refine s_lv (lv' := [(0, _), (1, _), (2, _), (3, _)]) [0, 1, 2, 3] rfl ?_
      refine s_st (st' := [.int (if ((a0 = 2)) ∨ ((¬ a0 = 2) ∧ (a0 = 5)) then 1 else 0)]) (by first | (simp only [if_pos h2, if_neg h2, if_pos h7, if_neg h7]; done) | (clear hQ B hr hsc; grind)) ?_
      exact M15 (by clear hQ B hr hsc; grind)
    · refine s_lv (lv' := [(0, _), (1, _), (2, _), (3, _)]) [0, 1, 2, 3] rfl ?_
      exact M10 (by clear hQ B hr hsc; grind)
def rmX2_kindsByBook : Room := { frames := 2, cells := 0, slots := 0, locals := 51 }
theorem hd_X2_kindsByBook : yX2_kindsByBook.cls = RX2 ∧ yX2_kindsByBook.cls ≠ "java/lang/invoke/MethodHandle" ∧ yX2_kindsByBook.cls ≠ "java/lang/invoke/VarHandle" ∧ (parseMethodDescriptor yX2_kindsByBook.desc).map (fun d => d.parameters.length) = some 1 := by decide +kernel
set_option maxHeartbeats 4000000 in
set_option maxRecDepth 100000 in
theorem c_X2_kindsByBook (l : Launch) (D : va_G) (g : Nat → ClassId) (h : Nat → Nat) (kd ka ho fa si kn aw : Nat → Int32) (n : Nat) (ev cr tr lw : Nat → Int32) (td : Nat) (z : Int32) (q : Nat → Int32) (k : Nat) (htd : td ≤ 40) (hk : k < 8) : Ci l yX2_kindsByBook (WW yX2_kindsByBook cX2_kindsByBook 5 (some FieldType.int)) rmX2_kindsByBook D vwCl (TY g) [.ref (h 0), .int (nI k)] (SchC g h kd ka ho fa si kn aw n ev cr tr lw td z q) (fun r u => r = mKinds (fun x y => mOfKind cr ev k (fa k) (lw 1) (nI x) (nI y) td) 6 ∧ ∃ q1, u = SchC g h kd ka ho fa si kn aw n ev cr tr lw td z q1) := by
  refine ci_in (by decide) (Nat.le_of_ble_eq_true rfl) (a0 := [h 0, h 1, h 2, h 3, h 4, h 5, h 6, h 7, h 8, h 9, h 10, h 11, h 12]) rfl (fun p e s m args below meth c A Q hQ B hr hsc => ?_)
  have IN : ∀ (x : Nat), x < 6 → (∀ qq : Nat → Int32, Sx p l e rmX2_kindsByBook s m args below meth c D vwCl A 5 Q 4 [(0, .ref (h 0)), (1, .int (nI k)), (2, .int (mKinds (fun x y => mOfKind cr ev k (fa k) (lw 1) (nI x) (nI y) td) (x + 1))), (3, .int (nI (x + 1)))] [] [(h 0, .inr (2, [.ref (h 1), .ref (h 2), .ref (h 3), .ref (h 4), .ref (h 5), .ref (h 6), .ref (h 7), .int (nI n), .ref (h 8), .ref (h 9), .ref (h 10), .ref (h 11), .int (nI td), .int z, .ref (h 12)])), (h 1, .inl (g 0, 8, .inl kd)), (h 2, .inl (g 0, 8, .inl ka)), (h 3, .inl (g 0, 8, .inl ho)), (h 4, .inl (g 0, 8, .inl fa)), (h 5, .inl (g 0, 8, .inl si)), (h 6, .inl (g 0, 8, .inl kn)), (h 7, .inl (g 0, 8, .inl aw)), (h 8, .inl (g 0, 40, .inl ev)), (h 9, .inl (g 0, 40, .inl cr)), (h 10, .inl (g 0, 40, .inl tr)), (h 11, .inl (g 0, 4, .inl lw)), (h 12, .inr (0, [.int (qq 0), .int (qq 1), .int (qq 2), .int (qq 3), .int (qq 4), .int (qq 5), .int (qq 6), .int (qq 7), .int (qq 8)]))]) → ∀ qq : Nat → Int32, Sx p l e rmX2_kindsByBook s m args below meth c D vwCl A 5 Q 13 [(0, .ref (h 0)), (1, .int (nI k)), (2, .int (mKin (fun x y => mOfKind cr ev k (fa k) (lw 1) (nI x) (nI y) td) x (mKinds (fun x y => mOfKind cr ev k (fa k) (lw 1) (nI x) (nI y) td) x) 0)), (3, .int (nI x)), (4, .int (nI 0))] [] [(h 0, .inr (2, [.ref (h 1), .ref (h 2), .ref (h 3), .ref (h 4), .ref (h 5), .ref (h 6), .ref (h 7), .int (nI n), .ref (h 8), .ref (h 9), .ref (h 10), .ref (h 11), .int (nI td), .int z, .ref (h 12)])), (h 1, .inl (g 0, 8, .inl kd)), (h 2, .inl (g 0, 8, .inl ka)), (h 3, .inl (g 0, 8, .inl ho)), (h 4, .inl (g 0, 8, .inl fa)), (h 5, .inl (g 0, 8, .inl si)), (h 6, .inl (g 0, 8, .inl kn)), (h 7, .inl (g 0, 8, .inl aw)), (h 8, .inl (g 0, 40, .inl ev)), (h 9, .inl (g 0, 40, .inl cr)), (h 10, .inl (g 0, 40, .inl tr)), (h 11, .inl (g 0, 4, .inl lw)), (h 12, .inr (0, [.int (qq 0), .int (qq 1), .int (qq 2), .int (qq 3), .int (qq 4), .int (qq 5), .int (qq 6), .int (qq 7), .int (qq 8)]))] := by
    intro x hx KK qq
    have L13 : ∀ (jj : Nat) (y : Nat) (q : Nat → Int32), 10 - y < jj → (y ≤ 10) → Sx p l e rmX2_kindsByBook s m args below meth c D vwCl A 5 Q 13 [(0, .ref (h 0)), (1, .int (nI k)), (2, .int (mKin (fun x y => mOfKind cr ev k (fa k) (lw 1) (nI x) (nI y) td) x (mKinds (fun x y => mOfKind cr ev k (fa k) (lw 1) (nI x) (nI y) td) x) y)), (3, .int (nI x)), (4, .int (nI y))] [] [(h 0, .inr (2, [.ref (h 1), .ref (h 2), .ref (h 3), .ref (h 4), .ref (h 5), .ref (h 6), .ref (h 7), .int (nI n), .ref (h 8), .ref (h 9), .ref (h 10), .ref (h 11), .int (nI td), .int z, .ref (h 12)])), (h 1, .inl (g 0, 8, .inl kd)), (h 2, .inl (g 0, 8, .inl ka)), (h 3, .inl (g 0, 8, .inl ho)), (h 4, .inl (g 0, 8, .inl fa)), (h 5, .inl (g 0, 8, .inl si)), (h 6, .inl (g 0, 8, .inl kn)), (h 7, .inl (g 0, 8, .inl aw)), (h 8, .inl (g 0, 40, .inl ev)), (h 9, .inl (g 0, 40, .inl cr)), (h 10, .inl (g 0, 40, .inl tr)), (h 11, .inl (g 0, 4, .inl lw)), (h 12, .inr (0, [.int (q 0), .int (q 1), .int (q 2), .int (q 3), .int (q 4), .int (q 5), .int (q 6), .int (q 7), .int (q 8)]))] := by
      intro jj
      induction jj with
      | zero => intro y q hj; exact absurd hj (Nat.not_lt_zero _)
      | succ jj ih =>
        intro y q hj hy
        refine s_iload B dX2_kindsByBook_13 4 rfl ?_
        refine s_bipush B dX2_kindsByBook_15 bp_9 ?_
        refine s_icmp_gt (tgt := 43) B dX2_kindsByBook_17 rfl (fun h17 => ?_) (fun h17 => ?_)
        · replace h17 : 9 < y := (nI_ltI (a := 9) (b := y) (by omega) (by omega)).mp h17
          refine s_iinc (lv' := [(3, _), (0, _), (1, _), (2, _), (4, _)]) (k := 3) B dX2_kindsByBook_43 rfl (ii_n _) (Nat.le_of_ble_eq_true rfl) rfl ?_
          refine s_goto (tgt := 4) B dX2_kindsByBook_46 rfl ?_
          refine s_lv (lv' := [(0, _), (1, _), (2, _), (3, _)]) [1, 2, 3, 0] rfl ?_
          refine s_lve (lv' := [(0, .ref (h 0)), (1, .int (nI k)), (2, .int (mKinds (fun x y => mOfKind cr ev k (fa k) (lw 1) (nI x) (nI y) td) (x + 1))), (3, .int (nI (x + 1)))]) (by clear hQ B hr hsc; have e9 : y = 10 := (by omega); subst e9; rfl) ?_
          exact KK q
        · replace h17 : ¬ 9 < y := fun hh => h17 ((nI_ltI (a := 9) (b := y) (by omega) (by omega)).mpr hh)
          refine s_aload_n B dX2_kindsByBook_20 rfl 0 rfl ?_
          refine s_iload_n B dX2_kindsByBook_21 rfl 1 rfl ?_
          refine s_iload_n B dX2_kindsByBook_22 rfl 3 rfl ?_
          refine s_iload B dX2_kindsByBook_23 4 rfl ?_
          refine s_callVi B hsc (c_X2_bookFits l D g h kd ka ho fa si kn aw n ev cr tr lw td z q k (nI x) (nI y) htd hk) (gw_V ml_X2_132 im_yX2_bookFits se_yX2_bookFits ini_RX2 co_yX2_bookFits) hd_X2_bookFits rfl rfl ⟨(Nat.le_of_ble_eq_true rfl), (Nat.le_of_ble_eq_true rfl)⟩ [0, 1, 2, 3, 4, 5, 6, 7, 8, 9, 10, 11, 12] [0, 1, 2, 3, 4] rfl rfl rfl (ci := 2) (q0 := 0) rfl rfl rfl rfl rfl (Nat.le_of_ble_eq_true rfl) dX2_kindsByBook_25 (fun r u hpo => ?_)
          obtain ⟨rfl, q1, rfl⟩ := hpo
          refine s_st (st' := [.int (if mOfKind cr ev k (fa k) (lw 1) (nI x) (nI y) td = true then 1 else 0)]) rfl ?_
          refine s_ws (ws' := [(h 0, .inr (2, [.ref (h 1), .ref (h 2), .ref (h 3), .ref (h 4), .ref (h 5), .ref (h 6), .ref (h 7), .int (nI n), .ref (h 8), .ref (h 9), .ref (h 10), .ref (h 11), .int (nI td), .int z, .ref (h 12)])), (h 1, .inl (g 0, 8, .inl kd)), (h 2, .inl (g 0, 8, .inl ka)), (h 3, .inl (g 0, 8, .inl ho)), (h 4, .inl (g 0, 8, .inl fa)), (h 5, .inl (g 0, 8, .inl si)), (h 6, .inl (g 0, 8, .inl kn)), (h 7, .inl (g 0, 8, .inl aw)), (h 8, .inl (g 0, 40, .inl ev)), (h 9, .inl (g 0, 40, .inl cr)), (h 10, .inl (g 0, 40, .inl tr)), (h 11, .inl (g 0, 4, .inl lw)), (h 12, .inr (0, [.int (q1 0), .int (q1 1), .int (q1 2), .int (q1 3), .int (q1 4), .int (q1 5), .int (q1 6), .int (q1 7), .int (q1 8)]))]) rfl ?_
          have M37 : (¬ 9 < y) → (((¬ (mOfKind cr ev k (fa k) (lw 1) (nI x) (nI y) td = true))) ∨ ((mOfKind cr ev k (fa k) (lw 1) (nI x) (nI y) td = true))) → Sx p l e rmX2_kindsByBook s m args below meth c D vwCl A 5 Q 37 [(0, .ref (h 0)), (1, .int (nI k)), (2, .int (if ¬ (mOfKind cr ev k (fa k) (lw 1) (nI x) (nI y) td = true) then mKin (fun x y => mOfKind cr ev k (fa k) (lw 1) (nI x) (nI y) td) x (mKinds (fun x y => mOfKind cr ev k (fa k) (lw 1) (nI x) (nI y) td) x) y else ((mKin (fun x y => mOfKind cr ev k (fa k) (lw 1) (nI x) (nI y) td) x (mKinds (fun x y => mOfKind cr ev k (fa k) (lw 1) (nI x) (nI y) td) x) y) ||| (1 <<< ((nI x) &&& 31))))), (3, .int (nI x)), (4, .int (nI y))] [] [(h 0, .inr (2, [.ref (h 1), .ref (h 2), .ref (h 3), .ref (h 4), .ref (h 5), .ref (h 6), .ref (h 7), .int (nI n), .ref (h 8), .ref (h 9), .ref (h 10), .ref (h 11), .int (nI td), .int z, .ref (h 12)])), (h 1, .inl (g 0, 8, .inl kd)), (h 2, .inl (g 0, 8, .inl ka)), (h 3, .inl (g 0, 8, .inl ho)), (h 4, .inl (g 0, 8, .inl fa)), (h 5, .inl (g 0, 8, .inl si)), (h 6, .inl (g 0, 8, .inl kn)), (h 7, .inl (g 0, 8, .inl aw)), (h 8, .inl (g 0, 40, .inl ev)), (h 9, .inl (g 0, 40, .inl cr)), (h 10, .inl (g 0, 40, .inl tr)), (h 11, .inl (g 0, 4, .inl lw)), (h 12, .inr (0, [.int (q1 0), .int (q1 1), .int (q1 2), .int (q1 3), .int (q1 4), .int (q1 5), .int (q1 6), .int (q1 7), .int (q1 8)]))] := by
            intro hm37_0 hm37_1
            refine s_iinc (lv' := [(4, _), (0, _), (1, _), (2, _), (3, _)]) (k := 4) B dX2_kindsByBook_37 rfl (ii_n _) (Nat.le_of_ble_eq_true rfl) rfl ?_
            refine s_goto (tgt := 13) B dX2_kindsByBook_40 rfl ?_
            refine s_lv (lv' := [(0, _), (1, _), (2, _), (3, _), (4, _)]) [1, 2, 3, 4, 0] rfl ?_
            refine s_lve (lv' := [(0, .ref (h 0)), (1, .int (nI k)), (2, .int (mKin (fun x y => mOfKind cr ev k (fa k) (lw 1) (nI x) (nI y) td) x (mKinds (fun x y => mOfKind cr ev k (fa k) (lw 1) (nI x) (nI y) td) x) (y + 1))), (3, .int (nI x)), (4, .int (nI (y + 1)))]) (by clear ih hQ B hr hsc; grind [mKin]) ?_
            exact ih (y + 1) q1 (by omega) (by omega)
          refine s_bif_eq (tgt := 37) B dX2_kindsByBook_28 rfl (fun h28 => ?_) (fun h28 => ?_)
          · refine s_lv (lv' := [(0, _), (1, _), (2, _), (3, _), (4, _)]) [0, 1, 2, 3, 4] rfl ?_
            refine s_lve (lv' := [(0, .ref (h 0)), (1, .int (nI k)), (2, .int (if ¬ (mOfKind cr ev k (fa k) (lw 1) (nI x) (nI y) td = true) then mKin (fun x y => mOfKind cr ev k (fa k) (lw 1) (nI x) (nI y) td) x (mKinds (fun x y => mOfKind cr ev k (fa k) (lw 1) (nI x) (nI y) td) x) y else ((mKin (fun x y => mOfKind cr ev k (fa k) (lw 1) (nI x) (nI y) td) x (mKinds (fun x y => mOfKind cr ev k (fa k) (lw 1) (nI x) (nI y) td) x) y) ||| (1 <<< ((nI x) &&& 31))))), (3, .int (nI x)), (4, .int (nI y))]) (by first | (simp only [if_pos h17, if_neg h17, if_pos h28, if_neg h28]; done) | (clear hQ B hr hsc; grind)) ?_
            exact M37 h17 (by clear hQ B hr hsc; grind)
          · refine s_iload_n B dX2_kindsByBook_31 rfl 2 rfl ?_
            refine s_iconst B dX2_kindsByBook_32 ic_1 ?_
            refine s_iload_n B dX2_kindsByBook_33 rfl 3 rfl ?_
            refine s_ishl B dX2_kindsByBook_34 ?_
            refine s_ior B dX2_kindsByBook_35 ?_
            refine s_istore_n (lv' := [(2, _), (0, _), (1, _), (3, _), (4, _)]) B dX2_kindsByBook_36 rfl (Nat.le_of_ble_eq_true rfl) rfl ?_
            refine s_lv (lv' := [(0, _), (1, _), (2, _), (3, _), (4, _)]) [1, 2, 0, 3, 4] rfl ?_
            refine s_lve (lv' := [(0, .ref (h 0)), (1, .int (nI k)), (2, .int (if ¬ (mOfKind cr ev k (fa k) (lw 1) (nI x) (nI y) td = true) then mKin (fun x y => mOfKind cr ev k (fa k) (lw 1) (nI x) (nI y) td) x (mKinds (fun x y => mOfKind cr ev k (fa k) (lw 1) (nI x) (nI y) td) x) y else ((mKin (fun x y => mOfKind cr ev k (fa k) (lw 1) (nI x) (nI y) td) x (mKinds (fun x y => mOfKind cr ev k (fa k) (lw 1) (nI x) (nI y) td) x) y) ||| (1 <<< ((nI x) &&& 31))))), (3, .int (nI x)), (4, .int (nI y))]) (by first | (simp only [if_pos h17, if_neg h17, if_pos h28]; done) | (clear hQ B hr hsc; grind)) ?_
            exact M37 h17 (by clear hQ B hr hsc; grind)
    exact L13 (10 + 1) 0 qq (by omega) (by omega)
  have L4 : ∀ (jj : Nat) (x : Nat) (q : Nat → Int32), 6 - x < jj → (x ≤ 6) → Sx p l e rmX2_kindsByBook s m args below meth c D vwCl A 5 Q 4 [(0, .ref (h 0)), (1, .int (nI k)), (2, .int (mKinds (fun x y => mOfKind cr ev k (fa k) (lw 1) (nI x) (nI y) td) x)), (3, .int (nI x))] [] [(h 0, .inr (2, [.ref (h 1), .ref (h 2), .ref (h 3), .ref (h 4), .ref (h 5), .ref (h 6), .ref (h 7), .int (nI n), .ref (h 8), .ref (h 9), .ref (h 10), .ref (h 11), .int (nI td), .int z, .ref (h 12)])), (h 1, .inl (g 0, 8, .inl kd)), (h 2, .inl (g 0, 8, .inl ka)), (h 3, .inl (g 0, 8, .inl ho)), (h 4, .inl (g 0, 8, .inl fa)), (h 5, .inl (g 0, 8, .inl si)), (h 6, .inl (g 0, 8, .inl kn)), (h 7, .inl (g 0, 8, .inl aw)), (h 8, .inl (g 0, 40, .inl ev)), (h 9, .inl (g 0, 40, .inl cr)), (h 10, .inl (g 0, 40, .inl tr)), (h 11, .inl (g 0, 4, .inl lw)), (h 12, .inr (0, [.int (q 0), .int (q 1), .int (q 2), .int (q 3), .int (q 4), .int (q 5), .int (q 6), .int (q 7), .int (q 8)]))] := by
    intro jj
    induction jj with
    | zero => intro x q hj; exact absurd hj (Nat.not_lt_zero _)
    | succ jj ih =>
      intro x q hj hx
      refine s_iload_n B dX2_kindsByBook_4 rfl 3 rfl ?_
      refine s_bipush B dX2_kindsByBook_5 bp_6 ?_
      refine s_icmp_ge (tgt := 49) B dX2_kindsByBook_7 rfl (fun h7 => ?_) (fun h7 => ?_)
      · replace h7 : 6 ≤ x := (nI_leI (a := 6) (b := x) (by omega) (by omega)).mp h7
        refine s_iload_n B dX2_kindsByBook_49 rfl 2 rfl ?_
        refine s_iret B hQ hr dX2_kindsByBook_50 rfl ?_
        have e9 : x = 6 := by omega
        subst e9
        exact ⟨rfl, _, rfl⟩
      · replace h7 : ¬ 6 ≤ x := fun hh => h7 ((nI_leI (a := 6) (b := x) (by omega) (by omega)).mpr hh)
        refine s_iconst B dX2_kindsByBook_10 ic_0 ?_
        refine s_istore (lv' := [(4, _), (0, _), (1, _), (2, _), (3, _)]) B dX2_kindsByBook_11 (Nat.le_of_ble_eq_true rfl) rfl ?_
        refine s_lv (lv' := [(0, _), (1, _), (2, _), (3, _), (4, _)]) [1, 2, 3, 4, 0] rfl ?_
        refine s_lve (lv' := [(0, .ref (h 0)), (1, .int (nI k)), (2, .int (mKin (fun x y => mOfKind cr ev k (fa k) (lw 1) (nI x) (nI y) td) x (mKinds (fun x y => mOfKind cr ev k (fa k) (lw 1) (nI x) (nI y) td) x) 0)), (3, .int (nI x)), (4, .int (nI 0))]) (by rfl) ?_
        exact IN x (by omega) (fun qq => ih (x + 1) qq (by omega) (by omega)) q
  refine s_iconst B dX2_kindsByBook_0 ic_0 ?_
  refine s_istore_n (lv' := [(2, _), (0, _), (1, _)]) B dX2_kindsByBook_1 rfl (Nat.le_of_ble_eq_true rfl) rfl ?_
  refine s_iconst B dX2_kindsByBook_2 ic_0 ?_
  refine s_istore_n (lv' := [(3, _), (2, _), (0, _), (1, _)]) B dX2_kindsByBook_3 rfl (Nat.le_of_ble_eq_true rfl) rfl ?_
  refine s_lv (lv' := [(0, _), (1, _), (2, _), (3, _)]) [2, 3, 1, 0] rfl ?_
  refine s_lve (lv' := [(0, .ref (h 0)), (1, .int (nI k)), (2, .int (mKinds (fun x y => mOfKind cr ev k (fa k) (lw 1) (nI x) (nI y) td) 0)), (3, .int (nI 0))]) (by rfl) ?_
  exact L4 (6 + 1) 0 q (by omega) (by omega)
def mZ (z : Int32) : Int32 := z * 1103515245 + 12345
def mLeft (z v : Int32) : Int32 := mUshr (mZ z) 16 - mUshr (mZ z) 16 / mPop v * mPop v
theorem mPick_k {t : Int32} {n k : Nat} (h : k < n) (x : Int32) : mPick t n (n - k) x = if mBit t k then (if x = 0 then nI k else mPick t n (n - (k + 1)) (x + (-1))) else mPick t n (n - (k + 1)) x := by
  have e9 : n - k = (n - (k + 1)) + 1 := by omega
  rw [e9]
  have e8 : n - (n - (k + 1) + 1) = k := by omega
  unfold mPick
  rw [e8]
  cases n - (k + 1) <;> rfl
def rmX2_drawFrom : Room := { frames := 1, cells := 0, slots := 0, locals := 20 }
theorem hd_X2_drawFrom : yX2_drawFrom.cls = RX2 ∧ yX2_drawFrom.cls ≠ "java/lang/invoke/MethodHandle" ∧ yX2_drawFrom.cls ≠ "java/lang/invoke/VarHandle" ∧ (parseMethodDescriptor yX2_drawFrom.desc).map (fun d => d.parameters.length) = some 1 := by decide +kernel
set_option maxHeartbeats 4000000 in
set_option maxRecDepth 100000 in
theorem c_X2_drawFrom (l : Launch) (D : va_G) (g : Nat → ClassId) (h : Nat → Nat) (kd ka ho fa si kn aw : Nat → Int32) (n : Nat) (ev cr tr lw : Nat → Int32) (td : Nat) (z : Int32) (q : Nat → Int32) (v : Int32) (hn : n ≤ 8) : Ci l yX2_drawFrom (WW yX2_drawFrom cX2_drawFrom 5 (some FieldType.int)) rmX2_drawFrom D vwCl (TY g) [.ref (h 0), .int v] (SchC g h kd ka ho fa si kn aw n ev cr tr lw td z q) (fun r u => r = (if 0 < mPop v then mPick v n n (mLeft z v) else -3) ∧ u = (if 0 < mPop v then SchC g h kd ka ho fa si kn aw n ev cr tr lw td (mZ z) q else SchC g h kd ka ho fa si kn aw n ev cr tr lw td z q)) := by
  refine ci_in (by decide) (Nat.le_of_ble_eq_true rfl) (a0 := [h 0, h 1, h 2, h 3, h 4, h 5, h 6, h 7, h 8, h 9, h 10, h 11, h 12]) rfl (fun p e s m args below meth c A Q hQ B hr hsc => ?_)
  have L40 : ∀ (jj : Nat) (k : Nat) (x : Int32), n - k < jj → (k ≤ n) → (0 < mPop v) → (mPick v n (n - k) x = mPick v n n (mLeft z v)) → Sx p l e rmX2_drawFrom s m args below meth c D vwCl A 5 Q 40 [(0, .ref (h 0)), (1, .int v), (2, .int (mPop v)), (3, .int x), (4, .int (nI k))] [] [(h 0, .inr (2, [.ref (h 1), .ref (h 2), .ref (h 3), .ref (h 4), .ref (h 5), .ref (h 6), .ref (h 7), .int (nI n), .ref (h 8), .ref (h 9), .ref (h 10), .ref (h 11), .int (nI td), .int (mZ z), .ref (h 12)])), (h 1, .inl (g 0, 8, .inl kd)), (h 2, .inl (g 0, 8, .inl ka)), (h 3, .inl (g 0, 8, .inl ho)), (h 4, .inl (g 0, 8, .inl fa)), (h 5, .inl (g 0, 8, .inl si)), (h 6, .inl (g 0, 8, .inl kn)), (h 7, .inl (g 0, 8, .inl aw)), (h 8, .inl (g 0, 40, .inl ev)), (h 9, .inl (g 0, 40, .inl cr)), (h 10, .inl (g 0, 40, .inl tr)), (h 11, .inl (g 0, 4, .inl lw)), (h 12, .inr (0, [.int (q 0), .int (q 1), .int (q 2), .int (q 3), .int (q 4), .int (q 5), .int (q 6), .int (q 7), .int (q 8)]))] := by
    intro jj
    induction jj with
    | zero => intro k x hj; exact absurd hj (Nat.not_lt_zero _)
    | succ jj ih =>
      intro k x hj hk hp hval
      refine s_iload B dX2_drawFrom_40 4 rfl ?_
      refine s_aload_n B dX2_drawFrom_42 rfl 0 rfl ?_
      refine s_get (T := TX2) B inX2 0 rfl rfl 7 (Nat.le_of_ble_eq_true rfl) fl_X2_33 rfl rfl dX2_drawFrom_43 ?_
      refine s_icmp_ge (tgt := 74) B dX2_drawFrom_46 rfl (fun h46 => ?_) (fun h46 => ?_)
      · replace h46 : n ≤ k := (nI_leI (a := n) (b := k) (by omega) (by omega)).mp h46
        refine s_bipush B dX2_drawFrom_74 bp_m3 ?_
        refine s_iret B hQ hr dX2_drawFrom_76 rfl ?_
        refine ⟨?_, by rw [if_pos hp]⟩
        rw [if_pos hp, ← hval]
        have e9 : n - k = 0 := by omega
        rw [e9, mPick]
      · replace h46 : ¬ n ≤ k := fun hh => h46 ((nI_leI (a := n) (b := k) (by omega) (by omega)).mpr hh)
        refine s_iload_n B dX2_drawFrom_49 rfl 1 rfl ?_
        refine s_iload B dX2_drawFrom_50 4 rfl ?_
        refine s_ishr B dX2_drawFrom_52 ?_
        refine s_iconst B dX2_drawFrom_53 ic_1 ?_
        refine s_iand B dX2_drawFrom_54 ?_
        refine s_if_eq (tgt := 68) B dX2_drawFrom_55 rfl (fun h55 => ?_) (fun h55 => ?_)
        · refine s_iinc (lv' := [(4, _), (0, _), (1, _), (2, _), (3, _)]) (k := 4) B dX2_drawFrom_68 rfl (ii_n _) (Nat.le_of_ble_eq_true rfl) rfl ?_
          refine s_goto (tgt := 40) B dX2_drawFrom_71 rfl ?_
          refine s_lv (lv' := [(0, _), (1, _), (2, _), (3, _), (4, _)]) [1, 2, 3, 4, 0] rfl ?_
          exact ih (k + 1) x (by omega) (by omega) hp (by rw [← hval, mPick_k (k := k) (by omega) x, if_neg (by show ¬ mBitI v (nI k) = true; unfold mBitI; rw [decide_eq_true_iff]; exact fun hh => hh h55)])
        · refine s_iload_n B dX2_drawFrom_58 rfl 3 rfl ?_
          refine s_if_ne (tgt := 65) B dX2_drawFrom_59 rfl (fun h59 => ?_) (fun h59 => ?_)
          · refine s_iinc (lv' := [(3, _), (0, _), (1, _), (2, _), (4, _)]) (k := 3) B dX2_drawFrom_65 rfl (ii_x _ ic_m1) (Nat.le_of_ble_eq_true rfl) rfl ?_
            refine s_iinc (lv' := [(4, _), (3, _), (0, _), (1, _), (2, _)]) (k := 4) B dX2_drawFrom_68 rfl (ii_n _) (Nat.le_of_ble_eq_true rfl) rfl ?_
            refine s_goto (tgt := 40) B dX2_drawFrom_71 rfl ?_
            refine s_lv (lv' := [(0, _), (1, _), (2, _), (3, _), (4, _)]) [2, 3, 4, 1, 0] rfl ?_
            exact ih (k + 1) (x + (-1)) (by omega) (by omega) hp (by rw [← hval, mPick_k (k := k) (by omega) x, if_pos (by show mBitI v (nI k) = true; unfold mBitI; rw [decide_eq_true_iff]; exact h55), if_neg h59])
          · refine s_iload B dX2_drawFrom_62 4 rfl ?_
            refine s_iret B hQ hr dX2_drawFrom_64 rfl ?_
            refine ⟨?_, by rw [if_pos hp]⟩
            rw [if_pos hp, ← hval, mPick_k (k := k) (by omega) x, if_pos (by show mBitI v (nI k) = true; unfold mBitI; rw [decide_eq_true_iff]; exact h55), if_pos h59]
  refine s_iload_n B dX2_drawFrom_0 rfl 1 rfl ?_
  refine s_callSi B hsc (c_J6_bitCount_0f7a4 l D g v) (gw_S ml_X2_123 sm_yJ6_bitCount_0f7a4 ini_RJ6 co_yJ6_bitCount_0f7a4) hd_J6_bitCount_0f7a4 rfl rfl ⟨(Nat.le_of_ble_eq_true rfl), (Nat.le_of_ble_eq_true rfl)⟩ [] [0, 1, 2, 3, 4] rfl rfl rfl rfl rfl (Nat.le_of_ble_eq_true rfl) dX2_drawFrom_1 (fun r u hpo => ?_)
  obtain ⟨rfl, rfl⟩ := hpo
  refine s_st (st' := [.int (mPop v)]) rfl ?_
  refine s_ws (ws' := [(h 0, .inr (2, [.ref (h 1), .ref (h 2), .ref (h 3), .ref (h 4), .ref (h 5), .ref (h 6), .ref (h 7), .int (nI n), .ref (h 8), .ref (h 9), .ref (h 10), .ref (h 11), .int (nI td), .int z, .ref (h 12)])), (h 1, .inl (g 0, 8, .inl kd)), (h 2, .inl (g 0, 8, .inl ka)), (h 3, .inl (g 0, 8, .inl ho)), (h 4, .inl (g 0, 8, .inl fa)), (h 5, .inl (g 0, 8, .inl si)), (h 6, .inl (g 0, 8, .inl kn)), (h 7, .inl (g 0, 8, .inl aw)), (h 8, .inl (g 0, 40, .inl ev)), (h 9, .inl (g 0, 40, .inl cr)), (h 10, .inl (g 0, 40, .inl tr)), (h 11, .inl (g 0, 4, .inl lw)), (h 12, .inr (0, [.int (q 0), .int (q 1), .int (q 2), .int (q 3), .int (q 4), .int (q 5), .int (q 6), .int (q 7), .int (q 8)]))]) rfl ?_
  refine s_istore_n (lv' := [(2, _), (0, _), (1, _)]) B dX2_drawFrom_4 rfl (Nat.le_of_ble_eq_true rfl) rfl ?_
  refine s_iload_n B dX2_drawFrom_5 rfl 0 rfl ?_
  refine s_if_gt (tgt := 12) B dX2_drawFrom_6 rfl (fun h6 => ?_) (fun h6 => ?_)
  · refine s_aload_n B dX2_drawFrom_12 rfl 1 rfl ?_
    refine s_aload_n B dX2_drawFrom_13 rfl 1 rfl ?_
    refine s_get (T := TX2) B inX2 0 rfl rfl 13 (Nat.le_of_ble_eq_true rfl) fl_X2_52 rfl rfl dX2_drawFrom_14 ?_
    refine s_ldc B cn_X2_136 dX2_drawFrom_17 ?_
    refine s_imul B dX2_drawFrom_19 ?_
    refine s_sipush B dX2_drawFrom_20 sp_12345 ?_
    refine s_iadd B dX2_drawFrom_23 ?_
    refine s_st (st' := [.int (mZ z), .ref (h 0)]) rfl ?_
    refine s_put (T := TX2) (ws' := [_, _, _, _, _, _, _, _, _, _, _, _, _]) B inX2 tyX2_ok nmX2 0 rfl rfl 13 (Nat.le_of_ble_eq_true rfl) fl_X2_52 rfl rfl rfl rfl (Nat.le_of_ble_eq_true rfl) rfl dX2_drawFrom_24 ?_
    refine s_aload_n B dX2_drawFrom_27 rfl 1 rfl ?_
    refine s_get (T := TX2) B inX2 0 rfl rfl 13 (Nat.le_of_ble_eq_true rfl) fl_X2_52 rfl rfl dX2_drawFrom_28 ?_
    refine s_bipush B dX2_drawFrom_31 bp_16 ?_
    refine s_iushr (v := mUshr (mZ z) 16) B dX2_drawFrom_33 rfl ?_
    refine s_iload_n B dX2_drawFrom_34 rfl 0 rfl ?_
    refine s_irem B dX2_drawFrom_35 (by intro hz; rw [hz] at h6; exact absurd h6 (by decide)) ?_
    refine s_st (st' := [.int (mLeft z v)]) rfl ?_
    refine s_istore_n (lv' := [(3, _), (2, _), (0, _), (1, _)]) B dX2_drawFrom_36 rfl (Nat.le_of_ble_eq_true rfl) rfl ?_
    refine s_iconst B dX2_drawFrom_37 ic_0 ?_
    refine s_istore (lv' := [(4, _), (3, _), (2, _), (0, _), (1, _)]) B dX2_drawFrom_38 (Nat.le_of_ble_eq_true rfl) rfl ?_
    refine s_lv (lv' := [(0, _), (1, _), (2, _), (3, _), (4, _)]) [3, 4, 2, 1, 0] rfl ?_
    refine s_lve (lv' := [(0, .ref (h 0)), (1, .int v), (2, .int (mPop v)), (3, .int (mLeft z v)), (4, .int (nI 0))]) (by rfl) ?_
    exact L40 (n + 1) 0 (mLeft z v) (by omega) (by omega) h6 rfl
  · refine s_bipush B dX2_drawFrom_9 bp_m3 ?_
    refine s_iret B hQ hr dX2_drawFrom_11 rfl ?_
    exact ⟨by rw [if_neg h6], by rw [if_neg h6]⟩
def rmX2_becomeEmptyAfter : Room := { frames := 1, cells := 0, slots := 0, locals := 60 }
theorem hd_X2_becomeEmptyAfter : yX2_becomeEmptyAfter.cls = RX2 ∧ yX2_becomeEmptyAfter.cls ≠ "java/lang/invoke/MethodHandle" ∧ yX2_becomeEmptyAfter.cls ≠ "java/lang/invoke/VarHandle" ∧ (parseMethodDescriptor yX2_becomeEmptyAfter.desc).map (fun d => d.parameters.length) = some 1 := by decide +kernel
set_option maxHeartbeats 4000000 in
set_option maxRecDepth 100000 in
theorem c_X2_becomeEmptyAfter (l : Launch) (D : va_G) (g : Nat → ClassId) (h h2 : Nat → Nat) (kd ka ho fa si kn aw : Nat → Int32) (n : Nat) (ev cr tr lw : Nat → Int32) (td : Nat) (z : Int32) (q : Nat → Int32) (kd2 ka2 ho2 fa2 si2 kn2 aw2 : Nat → Int32) (n2 : Nat) (ev2 cr2 tr2 lw2 : Nat → Int32) (td2 : Nat) (z2 : Int32) (q2 : Nat → Int32) : Cv l yX2_becomeEmptyAfter (WW yX2_becomeEmptyAfter cX2_becomeEmptyAfter 3 none) rmX2_becomeEmptyAfter D vwCl (TY g) [.ref (h 0), .ref (h2 0)] (SchC g h kd ka ho fa si kn aw n ev cr tr lw td z q ++ SchC g h2 kd2 ka2 ho2 fa2 si2 kn2 aw2 n2 ev2 cr2 tr2 lw2 td2 z2 q2) (fun u => u = SchC g h kd ka ho fa si kn aw 0 (fun _ => 0) (fun _ => 0) (fun _ => 0) lw2 0 z2 q ++ SchC g h2 kd2 ka2 ho2 fa2 si2 kn2 aw2 n2 ev2 cr2 tr2 lw2 td2 z2 q2) := by
  refine cv_in (by decide) (Nat.le_of_ble_eq_true rfl) (a0 := [h 0, h 1, h 2, h 3, h 4, h 5, h 6, h 7, h 8, h 9, h 10, h 11, h 12, h2 0, h2 1, h2 2, h2 3, h2 4, h2 5, h2 6, h2 7, h2 8, h2 9, h2 10, h2 11, h2 12]) rfl (fun p e s m args below meth c A Q hQ B hr hsc => ?_)
  have L7 : ∀ (jj : Nat) (k : Nat), 40 - k < jj → (k ≤ 40) → Sx p l e rmX2_becomeEmptyAfter s m args below meth c D vwCl A 3 Q 7 [(0, .ref (h 0)), (1, .ref (h2 0)), (2, .int (nI k))] [] [(h 0, .inr (2, [.ref (h 1), .ref (h 2), .ref (h 3), .ref (h 4), .ref (h 5), .ref (h 6), .ref (h 7), .int (nI 0), .ref (h 8), .ref (h 9), .ref (h 10), .ref (h 11), .int (nI td), .int z, .ref (h 12)])), (h 1, .inl (g 0, 8, .inl kd)), (h 2, .inl (g 0, 8, .inl ka)), (h 3, .inl (g 0, 8, .inl ho)), (h 4, .inl (g 0, 8, .inl fa)), (h 5, .inl (g 0, 8, .inl si)), (h 6, .inl (g 0, 8, .inl kn)), (h 7, .inl (g 0, 8, .inl aw)), (h 8, .inl (g 0, 40, .inl (mSpr (fun _ => true) 0 ev k))), (h 9, .inl (g 0, 40, .inl (mSpr (fun _ => true) 0 cr k))), (h 10, .inl (g 0, 40, .inl (mSpr (fun _ => true) 0 tr k))), (h 11, .inl (g 0, 4, .inl lw)), (h 12, .inr (0, [.int (q 0), .int (q 1), .int (q 2), .int (q 3), .int (q 4), .int (q 5), .int (q 6), .int (q 7), .int (q 8)])), (h2 0, .inr (2, [.ref (h2 1), .ref (h2 2), .ref (h2 3), .ref (h2 4), .ref (h2 5), .ref (h2 6), .ref (h2 7), .int (nI n2), .ref (h2 8), .ref (h2 9), .ref (h2 10), .ref (h2 11), .int (nI td2), .int z2, .ref (h2 12)])), (h2 1, .inl (g 0, 8, .inl kd2)), (h2 2, .inl (g 0, 8, .inl ka2)), (h2 3, .inl (g 0, 8, .inl ho2)), (h2 4, .inl (g 0, 8, .inl fa2)), (h2 5, .inl (g 0, 8, .inl si2)), (h2 6, .inl (g 0, 8, .inl kn2)), (h2 7, .inl (g 0, 8, .inl aw2)), (h2 8, .inl (g 0, 40, .inl ev2)), (h2 9, .inl (g 0, 40, .inl cr2)), (h2 10, .inl (g 0, 40, .inl tr2)), (h2 11, .inl (g 0, 4, .inl lw2)), (h2 12, .inr (0, [.int (q2 0), .int (q2 1), .int (q2 2), .int (q2 3), .int (q2 4), .int (q2 5), .int (q2 6), .int (q2 7), .int (q2 8)]))] := by
    intro jj
    induction jj with
    | zero => intro k hj; exact absurd hj (Nat.not_lt_zero _)
    | succ jj ih =>
      intro k hj hk
      refine s_iload_n B dX2_becomeEmptyAfter_7 rfl 2 rfl ?_
      refine s_bipush B dX2_becomeEmptyAfter_8 bp_40 ?_
      refine s_icmp_ge (tgt := 40) B dX2_becomeEmptyAfter_10 rfl (fun h10 => ?_) (fun h10 => ?_)
      · replace h10 : 40 ≤ k := (nI_leI (a := 40) (b := k) (by omega) (by omega)).mp h10
        have e9 : k = 40 := by omega
        subst e9
        refine s_ext 8 (ws' := [_, _, _, _, _, _, _, _, _, _, _, _, _, _, _, _, _, _, _, _, _, _, _, _, _, _]) rfl (f' := fun _ => 0) (fun j hj => by simp [mSpr, hj]) rfl ?_
        refine s_ext 9 (ws' := [_, _, _, _, _, _, _, _, _, _, _, _, _, _, _, _, _, _, _, _, _, _, _, _, _, _]) rfl (f' := fun _ => 0) (fun j hj => by simp [mSpr, hj]) rfl ?_
        refine s_ext 10 (ws' := [_, _, _, _, _, _, _, _, _, _, _, _, _, _, _, _, _, _, _, _, _, _, _, _, _, _]) rfl (f' := fun _ => 0) (fun j hj => by simp [mSpr, hj]) rfl ?_
        refine s_aload_n B dX2_becomeEmptyAfter_40 rfl 1 rfl ?_
        refine s_get (T := TX2) B inX2 13 rfl rfl 11 (Nat.le_of_ble_eq_true rfl) fl_X2_46 rfl rfl dX2_becomeEmptyAfter_41 ?_
        refine s_iconst B dX2_becomeEmptyAfter_44 ic_0 ?_
        refine s_aload_n B dX2_becomeEmptyAfter_45 rfl 0 rfl ?_
        refine s_get (T := TX2) B inX2 0 rfl rfl 11 (Nat.le_of_ble_eq_true rfl) fl_X2_46 rfl rfl dX2_becomeEmptyAfter_46 ?_
        refine s_iconst B dX2_becomeEmptyAfter_49 ic_0 ?_
        refine s_iconst B dX2_becomeEmptyAfter_50 ic_4 ?_
        refine s_copyA (n := 4) (ws' := [_, _, _, _, _, _, _, _, _, _, _, _, _, _, _, _, _, _, _, _, _, _, _, _, _, _]) B 24 11 0 ml_X2_65 nt_arraycopy sm_arraycopy ini_RJ10 rfl rfl rfl rfl (by decide) (Nat.le_of_ble_eq_true rfl) (Nat.le_of_ble_eq_true rfl) dX2_becomeEmptyAfter_51 rfl ?_
        refine s_aload_n B dX2_becomeEmptyAfter_54 rfl 0 rfl ?_
        refine s_iconst B dX2_becomeEmptyAfter_55 ic_0 ?_
        refine s_put (T := TX2) (ws' := [_, _, _, _, _, _, _, _, _, _, _, _, _, _, _, _, _, _, _, _, _, _, _, _, _, _]) B inX2 tyX2_ok nmX2 0 rfl rfl 12 (Nat.le_of_ble_eq_true rfl) fl_X2_49 rfl rfl rfl rfl (Nat.le_of_ble_eq_true rfl) rfl dX2_becomeEmptyAfter_56 ?_
        refine s_aload_n B dX2_becomeEmptyAfter_59 rfl 0 rfl ?_
        refine s_aload_n B dX2_becomeEmptyAfter_60 rfl 1 rfl ?_
        refine s_get (T := TX2) B inX2 13 rfl rfl 13 (Nat.le_of_ble_eq_true rfl) fl_X2_52 rfl rfl dX2_becomeEmptyAfter_61 ?_
        refine s_put (T := TX2) (ws' := [_, _, _, _, _, _, _, _, _, _, _, _, _, _, _, _, _, _, _, _, _, _, _, _, _, _]) B inX2 tyX2_ok nmX2 0 rfl rfl 13 (Nat.le_of_ble_eq_true rfl) fl_X2_52 rfl rfl rfl rfl (Nat.le_of_ble_eq_true rfl) rfl dX2_becomeEmptyAfter_64 ?_
        refine s_vret B hQ hr dX2_becomeEmptyAfter_67 rfl ?_
        rfl
      · replace h10 : ¬ 40 ≤ k := fun hh => h10 ((nI_leI (a := 40) (b := k) (by omega) (by omega)).mpr hh)
        refine s_aload_n B dX2_becomeEmptyAfter_13 rfl 0 rfl ?_
        refine s_get (T := TX2) B inX2 0 rfl rfl 8 (Nat.le_of_ble_eq_true rfl) fl_X2_37 rfl rfl dX2_becomeEmptyAfter_14 ?_
        refine s_iload_n B dX2_becomeEmptyAfter_17 rfl 2 rfl ?_
        refine s_iconst B dX2_becomeEmptyAfter_18 ic_0 ?_
        refine s_iastN (ws' := [_, _, _, _, _, _, _, _, _, _, _, _, _, _, _, _, _, _, _, _, _, _, _, _, _, _]) B 8 0 rfl rfl rfl dX2_becomeEmptyAfter_19 (by omega) (by decide) ?_
        refine s_aload_n B dX2_becomeEmptyAfter_20 rfl 0 rfl ?_
        refine s_get (T := TX2) B inX2 0 rfl rfl 9 (Nat.le_of_ble_eq_true rfl) fl_X2_40 rfl rfl dX2_becomeEmptyAfter_21 ?_
        refine s_iload_n B dX2_becomeEmptyAfter_24 rfl 2 rfl ?_
        refine s_iconst B dX2_becomeEmptyAfter_25 ic_0 ?_
        refine s_iastN (ws' := [_, _, _, _, _, _, _, _, _, _, _, _, _, _, _, _, _, _, _, _, _, _, _, _, _, _]) B 9 0 rfl rfl rfl dX2_becomeEmptyAfter_26 (by omega) (by decide) ?_
        refine s_aload_n B dX2_becomeEmptyAfter_27 rfl 0 rfl ?_
        refine s_get (T := TX2) B inX2 0 rfl rfl 10 (Nat.le_of_ble_eq_true rfl) fl_X2_43 rfl rfl dX2_becomeEmptyAfter_28 ?_
        refine s_iload_n B dX2_becomeEmptyAfter_31 rfl 2 rfl ?_
        refine s_iconst B dX2_becomeEmptyAfter_32 ic_0 ?_
        refine s_iastN (ws' := [_, _, _, _, _, _, _, _, _, _, _, _, _, _, _, _, _, _, _, _, _, _, _, _, _, _]) B 10 0 rfl rfl rfl dX2_becomeEmptyAfter_33 (by omega) (by decide) ?_
        refine s_iinc (lv' := [(2, _), (0, _), (1, _)]) (k := 2) B dX2_becomeEmptyAfter_34 rfl (ii_n _) (Nat.le_of_ble_eq_true rfl) rfl ?_
        refine s_goto (tgt := 7) B dX2_becomeEmptyAfter_37 rfl ?_
        refine s_lv (lv' := [(0, _), (1, _), (2, _)]) [1, 2, 0] rfl ?_
        refine s_ws (ws' := [(h 0, .inr (2, [.ref (h 1), .ref (h 2), .ref (h 3), .ref (h 4), .ref (h 5), .ref (h 6), .ref (h 7), .int (nI 0), .ref (h 8), .ref (h 9), .ref (h 10), .ref (h 11), .int (nI td), .int z, .ref (h 12)])), (h 1, .inl (g 0, 8, .inl kd)), (h 2, .inl (g 0, 8, .inl ka)), (h 3, .inl (g 0, 8, .inl ho)), (h 4, .inl (g 0, 8, .inl fa)), (h 5, .inl (g 0, 8, .inl si)), (h 6, .inl (g 0, 8, .inl kn)), (h 7, .inl (g 0, 8, .inl aw)), (h 8, .inl (g 0, 40, .inl (mSpr (fun _ => true) 0 ev (k + 1)))), (h 9, .inl (g 0, 40, .inl (mSpr (fun _ => true) 0 cr (k + 1)))), (h 10, .inl (g 0, 40, .inl (mSpr (fun _ => true) 0 tr (k + 1)))), (h 11, .inl (g 0, 4, .inl lw)), (h 12, .inr (0, [.int (q 0), .int (q 1), .int (q 2), .int (q 3), .int (q 4), .int (q 5), .int (q 6), .int (q 7), .int (q 8)])), (h2 0, .inr (2, [.ref (h2 1), .ref (h2 2), .ref (h2 3), .ref (h2 4), .ref (h2 5), .ref (h2 6), .ref (h2 7), .int (nI n2), .ref (h2 8), .ref (h2 9), .ref (h2 10), .ref (h2 11), .int (nI td2), .int z2, .ref (h2 12)])), (h2 1, .inl (g 0, 8, .inl kd2)), (h2 2, .inl (g 0, 8, .inl ka2)), (h2 3, .inl (g 0, 8, .inl ho2)), (h2 4, .inl (g 0, 8, .inl fa2)), (h2 5, .inl (g 0, 8, .inl si2)), (h2 6, .inl (g 0, 8, .inl kn2)), (h2 7, .inl (g 0, 8, .inl aw2)), (h2 8, .inl (g 0, 40, .inl ev2)), (h2 9, .inl (g 0, 40, .inl cr2)), (h2 10, .inl (g 0, 40, .inl tr2)), (h2 11, .inl (g 0, 4, .inl lw2)), (h2 12, .inr (0, [.int (q2 0), .int (q2 1), .int (q2 2), .int (q2 3), .int (q2 4), .int (q2 5), .int (q2 6), .int (q2 7), .int (q2 8)]))]) (by rw [mSpr_t, mSpr_t, mSpr_t] <;> rfl) ?_
        exact ih (k + 1) (by omega) (by omega)
  refine s_aload_n B dX2_becomeEmptyAfter_0 rfl 0 rfl ?_
  refine s_iconst B dX2_becomeEmptyAfter_1 ic_0 ?_
  refine s_put (T := TX2) (ws' := [_, _, _, _, _, _, _, _, _, _, _, _, _, _, _, _, _, _, _, _, _, _, _, _, _, _]) B inX2 tyX2_ok nmX2 0 rfl rfl 7 (Nat.le_of_ble_eq_true rfl) fl_X2_33 rfl rfl rfl rfl (Nat.le_of_ble_eq_true rfl) rfl dX2_becomeEmptyAfter_2 ?_
  refine s_iconst B dX2_becomeEmptyAfter_5 ic_0 ?_
  refine s_istore_n (lv' := [(2, _), (0, _), (1, _)]) B dX2_becomeEmptyAfter_6 rfl (Nat.le_of_ble_eq_true rfl) rfl ?_
  refine s_lv (lv' := [(0, _), (1, _), (2, _)]) [1, 2, 0] rfl ?_
  refine s_lve (lv' := [(0, .ref (h 0)), (1, .ref (h2 0)), (2, .int (nI 0))]) (by rfl) ?_
  refine s_ws (ws' := [(h 0, .inr (2, [.ref (h 1), .ref (h 2), .ref (h 3), .ref (h 4), .ref (h 5), .ref (h 6), .ref (h 7), .int (nI 0), .ref (h 8), .ref (h 9), .ref (h 10), .ref (h 11), .int (nI td), .int z, .ref (h 12)])), (h 1, .inl (g 0, 8, .inl kd)), (h 2, .inl (g 0, 8, .inl ka)), (h 3, .inl (g 0, 8, .inl ho)), (h 4, .inl (g 0, 8, .inl fa)), (h 5, .inl (g 0, 8, .inl si)), (h 6, .inl (g 0, 8, .inl kn)), (h 7, .inl (g 0, 8, .inl aw)), (h 8, .inl (g 0, 40, .inl (mSpr (fun _ => true) 0 ev 0))), (h 9, .inl (g 0, 40, .inl (mSpr (fun _ => true) 0 cr 0))), (h 10, .inl (g 0, 40, .inl (mSpr (fun _ => true) 0 tr 0))), (h 11, .inl (g 0, 4, .inl lw)), (h 12, .inr (0, [.int (q 0), .int (q 1), .int (q 2), .int (q 3), .int (q 4), .int (q 5), .int (q 6), .int (q 7), .int (q 8)])), (h2 0, .inr (2, [.ref (h2 1), .ref (h2 2), .ref (h2 3), .ref (h2 4), .ref (h2 5), .ref (h2 6), .ref (h2 7), .int (nI n2), .ref (h2 8), .ref (h2 9), .ref (h2 10), .ref (h2 11), .int (nI td2), .int z2, .ref (h2 12)])), (h2 1, .inl (g 0, 8, .inl kd2)), (h2 2, .inl (g 0, 8, .inl ka2)), (h2 3, .inl (g 0, 8, .inl ho2)), (h2 4, .inl (g 0, 8, .inl fa2)), (h2 5, .inl (g 0, 8, .inl si2)), (h2 6, .inl (g 0, 8, .inl kn2)), (h2 7, .inl (g 0, 8, .inl aw2)), (h2 8, .inl (g 0, 40, .inl ev2)), (h2 9, .inl (g 0, 40, .inl cr2)), (h2 10, .inl (g 0, 40, .inl tr2)), (h2 11, .inl (g 0, 4, .inl lw2)), (h2 12, .inr (0, [.int (q2 0), .int (q2 1), .int (q2 2), .int (q2 3), .int (q2 4), .int (q2 5), .int (q2 6), .int (q2 7), .int (q2 8)]))]) (by rw [mSpr_0, mSpr_0, mSpr_0]; rfl) ?_
  exact L7 (40 + 1) 0 (by omega) (by omega)
