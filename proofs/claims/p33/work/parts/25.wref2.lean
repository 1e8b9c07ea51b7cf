theorem ones_lt {x : Int32} (h : ¬ x = 0) : (x &&& (x - 1)).toBitVec.toNat < x.toBitVec.toNat := by
  have h0 : x.toBitVec.toNat ≠ 0 := fun e => h (by apply Int32.toBitVec_inj.mp; apply BitVec.eq_of_toNat_eq; rw [e]; rfl)
  have h1 : (x &&& (x - 1)).toBitVec = x.toBitVec &&& (x.toBitVec - 1#32) := by rw [Int32.toBitVec_and, Int32.toBitVec_sub]; rfl
  rw [h1, BitVec.toNat_and]
  have h2 : (x.toBitVec - 1#32).toNat = x.toBitVec.toNat - 1 := by
    have h3 := x.toBitVec.isLt
    rw [BitVec.toNat_sub]
    show (2 ^ 32 - 1 + x.toBitVec.toNat) % 2 ^ 32 = _
    omega
  have h4 : x.toBitVec.toNat &&& (x.toBitVec - 1#32).toNat ≤ (x.toBitVec - 1#32).toNat := Nat.and_le_right
  omega
theorem ones_pop {x M : Int32} {c : Nat} (h : ¬ x = 0) (hc : x.toBitVec.toNat < 256 ∧ nI c + mPop x = M) : (x &&& (x - 1)).toBitVec.toNat < 256 ∧ nI (c + 1) + mPop (x &&& (x - 1)) = M := by
  have h1 := ones_lt h
  refine ⟨by omega, ?_⟩
  have h2 := pop_m x.toBitVec.toNat hc.1 (fun e => h (by rw [i32_of hc.1, e]; rfl))
  rw [← i32_of hc.1] at h2
  rw [← hc.2, h2, ← nI_1, Int32.add_assoc, Int32.add_comm 1]
def rmX9_ones : Room := { frames := 0, cells := 0, slots := 0, locals := 0 }
theorem hd_X9_ones : yX9_ones.cls ≠ "java/lang/invoke/MethodHandle" ∧ yX9_ones.cls ≠ "java/lang/invoke/VarHandle" ∧ (parseMethodDescriptor yX9_ones.desc).map (fun d => d.parameters.length) = some 1 := by decide +kernel
set_option maxHeartbeats 4000000 in
set_option maxRecDepth 100000 in
theorem c_X9_ones (l : Launch) (D : va_G) (g : Nat → ClassId) (s0 : Int32) : Ci l yX9_ones (WW yX9_ones cX9_ones 3 (some FieldType.int)) rmX9_ones D vwCl (TY g) [.int s0] [] (fun r u => (∃ c : Nat, r = nI c ∧ c ≤ s0.toBitVec.toNat ∧ (¬ s0 = 0 → 1 ≤ c) ∧ (s0.toBitVec.toNat < 256 → nI c = mPop s0)) ∧ u = []) := by
  refine ci_in (by decide) (Nat.le_of_ble_eq_true rfl) (a0 := []) rfl (fun p e s m args below meth c A Q hQ B hr hsc => ?_)
  have L4 : ∀ (jj : Nat) (cn : Nat) (x : Int32), x.toBitVec.toNat < jj → (cn + x.toBitVec.toNat ≤ s0.toBitVec.toNat) → (s0 = x ∨ 1 ≤ cn) → (s0.toBitVec.toNat < 256 → (x.toBitVec.toNat < 256 ∧ nI cn + mPop x = mPop s0)) → Sx p l e rmX9_ones s m args below meth c D vwCl A 3 Q 4 [(1, .int (nI cn)), (2, .int x)] [] [] := by
    intro jj
    induction jj with
    | zero => intro cn x hj; exact absurd hj (Nat.not_lt_zero _)
    | succ jj ih =>
      intro cn x hj hc0 hc1 hc2
      refine s_iload_n B dX9_ones_4 rfl 1 rfl ?_
      refine s_if_eq (tgt := 20) B dX9_ones_5 rfl (fun h5 => ?_) (fun h5 => ?_)
      · refine s_iload_n B dX9_ones_20 rfl 0 rfl ?_
        refine s_iret B hQ hr dX9_ones_21 rfl ?_
        refine ⟨⟨cn, rfl, by omega, fun hs => ?_, fun q => ?_⟩, rfl⟩
        · rcases hc1 with h | h
          · exact absurd (h.trans h5) hs
          · exact h
        · have w := (hc2 q).2; rw [h5, show mPop 0 = 0 from by decide, Int32.add_zero] at w; exact w
      · refine s_iinc (lv' := [(1, _), (2, _)]) (k := 0) B dX9_ones_8 rfl (ii_n _) (Nat.le_of_ble_eq_true rfl) rfl ?_
        refine s_iload_n B dX9_ones_11 rfl 1 rfl ?_
        refine s_iload_n B dX9_ones_12 rfl 1 rfl ?_
        refine s_iconst B dX9_ones_13 ic_1 ?_
        refine s_isub B dX9_ones_14 ?_
        refine s_iand B dX9_ones_15 ?_
        refine s_istore_n (lv' := [(2, _), (1, _)]) B dX9_ones_16 rfl (Nat.le_of_ble_eq_true rfl) rfl ?_
        refine s_goto (tgt := 4) B dX9_ones_17 rfl ?_
        refine s_lv (lv' := [(1, _), (2, _)]) [1, 0] rfl ?_
        exact ih (cn + 1) (x &&& (x - 1)) (by have := ones_lt h5; omega) (by have := ones_lt h5; omega) (Or.inr (by omega)) (fun q => ones_pop h5 (hc2 q))
  refine s_iconst B dX9_ones_0 ic_0 ?_
  refine s_istore_n (lv' := [(1, _), (0, _)]) B dX9_ones_1 rfl (Nat.le_of_ble_eq_true rfl) rfl ?_
  refine s_iload_n B dX9_ones_2 rfl 1 rfl ?_
  refine s_istore_n (lv' := [(2, _), (1, _), (0, _)]) B dX9_ones_3 rfl (Nat.le_of_ble_eq_true rfl) rfl ?_
  refine s_lv (lv' := [(1, _), (2, _)]) [1, 0] rfl ?_
  refine s_lve (lv' := [(1, .int (nI 0)), (2, .int s0)]) (by rfl) ?_
  exact L4 (s0.toBitVec.toNat + 1) 0 s0 (by omega) (by omega) (Or.inl rfl) (fun q => ⟨q, by rw [show nI 0 = 0 from rfl, Int32.zero_add]⟩)
def rmX9_dayGoes : Room := { frames := 4, cells := 0, slots := 0, locals := 96 }
theorem hd_X9_dayGoes : yX9_dayGoes.cls = RX9 ∧ yX9_dayGoes.cls ≠ "java/lang/invoke/MethodHandle" ∧ yX9_dayGoes.cls ≠ "java/lang/invoke/VarHandle" ∧ (parseMethodDescriptor yX9_dayGoes.desc).map (fun d => d.parameters.length) = some 0 := by decide +kernel
set_option maxHeartbeats 4000000 in
set_option maxRecDepth 100000 in
theorem c_X9_dayGoes (l : Launch) (D : va_G) (g : Nat → ClassId) (b : Nat → Nat) (I : Nat → Int32) (W : Int64) (n p0 t q mm bd : Nat) (a_child : Nat → Int32) (a_row : Nat → Int32) (a_events : Nat → Int32) (a_laws : Nat → Int32) (hn : n ≤ 8) (hp : p0 = 0 ∨ p0 = 25) (ht : t ≤ 240) (hq0 : q ≤ 20) (hmm : mm ≤ 20) (hbd : bd ≤ 30) (ok_a_row : RowOk a_row) (hpre0 : lt40 (a_row p0)) : Ci l yX9_dayGoes (WW yX9_dayGoes cX9_dayGoes 4 (some FieldType.int)) rmX9_dayGoes D vwCl (TY g) [.ref (b 0)] [(b 0, .inr (9, [.int (nI n), .ref (b 1), .ref (b 2), .int (nI p0), .ref (b 3), .ref (b 4), .ref (b 5), .ref (b 6), .ref (b 7), .ref (b 8), .int (I 10), .ref (b 9), .int (nI t), .int (I 13), .int (I 14), .int (I 15), .long W, .int (I 17), .int (I 18), .int (I 19), .int (I 20), .ref (b 10), .ref (b 11), .ref (b 12), .ref (b 13), .ref (b 14), .ref (b 15), .int (nI q), .int (nI mm), .ref (b 16), .ref (b 17), .ref (b 18), .ref (b 19), .ref (b 20), .ref (b 21), .int (I 35), .int (I 36), .int (I 37), .ref (b 22), .int (nI bd), .int (I 40), .int (I 41), .ref (b 23), .int (I 43), .ref (b 24)])), (b 1, .inl (g 0, 32, .inl a_child)), (b 2, .inl (g 0, 50, .inl a_row)), (b 3, .inl (g 0, 40, .inl a_events)), (b 6, .inl (g 0, 4, .inl a_laws))] (fun r u => ∃ (a_row' : Nat → Int32), (RowOk a_row') ∧ (∀ d : Nat, d < 40 → a_row p0 = nI d → a_row' p0 = nI (d + 1)) ∧ (p0 = 25 → a_row' 0 = a_row 0) ∧ (∀ d : Nat, d < 40 → a_row p0 = nI d → r = mThere (xC a_child 0) (xC a_child 1) (xC a_child 3) (xR a_row (p0 + 1)) (xR a_row (p0 + 9)) (xR a_row (p0 + 17)) a_events a_laws d n ∧ DayP a_child a_row a_row' a_laws n p0 d r) ∧ (p0 = 25 → ∀ j : Nat, j < 25 → a_row' j = a_row j) ∧ u = [(b 0, .inr (9, [.int (nI n), .ref (b 1), .ref (b 2), .int (nI p0), .ref (b 3), .ref (b 4), .ref (b 5), .ref (b 6), .ref (b 7), .ref (b 8), .int (I 10), .ref (b 9), .int (nI t), .int (I 13), .int (I 14), .int (I 15), .long W, .int (I 17), .int (I 18), .int (I 19), .int (I 20), .ref (b 10), .ref (b 11), .ref (b 12), .ref (b 13), .ref (b 14), .ref (b 15), .int (nI q), .int (nI mm), .ref (b 16), .ref (b 17), .ref (b 18), .ref (b 19), .ref (b 20), .ref (b 21), .int (I 35), .int (I 36), .int (I 37), .ref (b 22), .int (nI bd), .int (I 40), .int (I 41), .ref (b 23), .int (I 43), .ref (b 24)])), (b 1, .inl (g 0, 32, .inl a_child)), (b 2, .inl (g 0, 50, .inl a_row')), (b 3, .inl (g 0, 40, .inl a_events)), (b 6, .inl (g 0, 4, .inl a_laws))]) := by
  refine ci_in (by decide) (Nat.le_of_ble_eq_true rfl) (a0 := [b 0, b 1, b 2, b 3, b 6]) rfl (fun p e s m args below meth c A Q hQ B hr hsc => ?_)
  obtain ⟨dz, hdz, hrz0⟩ := id hpre0
  have L9 : ∀ (jj9 : Nat) (v_3 : Int32) (k_4 : Nat), n - k_4 < jj9 → (lt40 (a_row p0)) → (k_4 ≤ n) → (v_3 = mBits (fTh a_child a_row a_events a_laws p0 dz) k_4) → Sx p l e rmX9_dayGoes s m args below meth c D vwCl A 4 Q 9 [(0, .ref (b 0)), (1, .int v_3), (2, .int (mSick (xR a_row (p0 + 1)) n)), (3, .int (nI k_4))] [] [(b 0, .inr (9, [.int (nI n), .ref (b 1), .ref (b 2), .int (nI p0), .ref (b 3), .ref (b 4), .ref (b 5), .ref (b 6), .ref (b 7), .ref (b 8), .int (I 10), .ref (b 9), .int (nI t), .int (I 13), .int (I 14), .int (I 15), .long W, .int (I 17), .int (I 18), .int (I 19), .int (I 20), .ref (b 10), .ref (b 11), .ref (b 12), .ref (b 13), .ref (b 14), .ref (b 15), .int (nI q), .int (nI mm), .ref (b 16), .ref (b 17), .ref (b 18), .ref (b 19), .ref (b 20), .ref (b 21), .int (I 35), .int (I 36), .int (I 37), .ref (b 22), .int (nI bd), .int (I 40), .int (I 41), .ref (b 23), .int (I 43), .ref (b 24)])), (b 1, .inl (g 0, 32, .inl a_child)), (b 2, .inl (g 0, 50, .inl a_row)), (b 3, .inl (g 0, 40, .inl a_events)), (b 6, .inl (g 0, 4, .inl a_laws))] := by
    intro jj9
    induction jj9 with
    | zero => intro v_3 k_4 hj; exact absurd hj (Nat.not_lt_zero _)
    | succ jj9 ih9 =>
      intro v_3 k_4 hj9 hpre0 h_5 hT_6
      have L43 : ∀ (jj43 : Nat) (k_9 : Nat) (a_row_11 : Nat → Int32), n - k_9 < jj43 → (lt40 (a_row p0)) → (k_4 ≤ n) → (v_3 = mBits (fTh a_child a_row a_events a_laws p0 dz) k_4) → (n ≤ k_4) → (k_9 ≤ n) → (RowOk a_row_11) → (a_row_11 p0 = a_row p0) → (p0 = 25 → a_row_11 0 = a_row 0) → (p0 = 25 → ∀ j : Nat, j < 25 → a_row_11 j = a_row j) → (DayB v_3 a_row a_row_11 p0 k_9) → Sx p l e rmX9_dayGoes s m args below meth c D vwCl A 4 Q 43 [(0, .ref (b 0)), (1, .int v_3), (2, .int (mSick (xR a_row (p0 + 1)) n)), (3, .int (nI k_9))] [] [(b 0, .inr (9, [.int (nI n), .ref (b 1), .ref (b 2), .int (nI p0), .ref (b 3), .ref (b 4), .ref (b 5), .ref (b 6), .ref (b 7), .ref (b 8), .int (I 10), .ref (b 9), .int (nI t), .int (I 13), .int (I 14), .int (I 15), .long W, .int (I 17), .int (I 18), .int (I 19), .int (I 20), .ref (b 10), .ref (b 11), .ref (b 12), .ref (b 13), .ref (b 14), .ref (b 15), .int (nI q), .int (nI mm), .ref (b 16), .ref (b 17), .ref (b 18), .ref (b 19), .ref (b 20), .ref (b 21), .int (I 35), .int (I 36), .int (I 37), .ref (b 22), .int (nI bd), .int (I 40), .int (I 41), .ref (b 23), .int (I 43), .ref (b 24)])), (b 1, .inl (g 0, 32, .inl a_child)), (b 2, .inl (g 0, 50, .inl a_row_11)), (b 3, .inl (g 0, 40, .inl a_events)), (b 6, .inl (g 0, 4, .inl a_laws))] := by
        intro jj43
        induction jj43 with
        | zero => intro k_9 a_row_11 hj; exact absurd hj (Nat.not_lt_zero _)
        | succ jj43 ih43 =>
          intro k_9 a_row_11 hj43 hpre0 h_5 hT_6 h14 h_10 ok_a_row_11 heq_12 hz_13 hy_14 hB_15
          have L178 : ∀ (jj178 : Nat) (k_16 : Nat) (a_row_18 : Nat → Int32), n - k_16 < jj178 → (lt40 (a_row p0)) → (k_4 ≤ n) → (v_3 = mBits (fTh a_child a_row a_events a_laws p0 dz) k_4) → (n ≤ k_4) → (k_9 ≤ n) → (RowOk a_row_11) → (a_row_11 p0 = a_row p0) → (p0 = 25 → a_row_11 0 = a_row 0) → (p0 = 25 → ∀ j : Nat, j < 25 → a_row_11 j = a_row j) → (DayB v_3 a_row a_row_11 p0 k_9) → (n ≤ k_9) → (k_16 ≤ n) → (RowOk a_row_18) → (a_row_18 p0 = a_row p0) → (p0 = 25 → a_row_18 0 = a_row 0) → (p0 = 25 → ∀ j : Nat, j < 25 → a_row_18 j = a_row j) → (DayC a_child a_laws (mSick (xR a_row (p0 + 1)) n) a_row_11 a_row_18 n p0 k_16) → Sx p l e rmX9_dayGoes s m args below meth c D vwCl A 4 Q 178 [(0, .ref (b 0)), (1, .int v_3), (2, .int (mSick (xR a_row (p0 + 1)) n)), (3, .int (nI k_16))] [] [(b 0, .inr (9, [.int (nI n), .ref (b 1), .ref (b 2), .int (nI p0), .ref (b 3), .ref (b 4), .ref (b 5), .ref (b 6), .ref (b 7), .ref (b 8), .int (I 10), .ref (b 9), .int (nI t), .int (I 13), .int (I 14), .int (I 15), .long W, .int (I 17), .int (I 18), .int (I 19), .int (I 20), .ref (b 10), .ref (b 11), .ref (b 12), .ref (b 13), .ref (b 14), .ref (b 15), .int (nI q), .int (nI mm), .ref (b 16), .ref (b 17), .ref (b 18), .ref (b 19), .ref (b 20), .ref (b 21), .int (I 35), .int (I 36), .int (I 37), .ref (b 22), .int (nI bd), .int (I 40), .int (I 41), .ref (b 23), .int (I 43), .ref (b 24)])), (b 1, .inl (g 0, 32, .inl a_child)), (b 2, .inl (g 0, 50, .inl a_row_18)), (b 3, .inl (g 0, 40, .inl a_events)), (b 6, .inl (g 0, 4, .inl a_laws))] := by
            intro jj178
            induction jj178 with
            | zero => intro k_16 a_row_18 hj; exact absurd hj (Nat.not_lt_zero _)
            | succ jj178 ih178 =>
              intro k_16 a_row_18 hj178 hpre0 h_5 hT_6 h14 h_10 ok_a_row_11 heq_12 hz_13 hy_14 hB_15 h48 h_17 ok_a_row_18 heq_19 hz_20 hy_21 hC_22
              have M240 : ∀ (a_row_27 : Nat → Int32), (lt40 (a_row p0)) → (k_4 ≤ n) → (n ≤ k_4) → (k_9 ≤ n) → (RowOk a_row_11) → (a_row_11 p0 = a_row p0) → (p0 = 25 → a_row_11 0 = a_row 0) → (p0 = 25 → ∀ j : Nat, j < 25 → a_row_11 j = a_row j) → (DayB v_3 a_row a_row_11 p0 k_9) → (n ≤ k_9) → (k_16 ≤ n) → (RowOk a_row_18) → (a_row_18 p0 = a_row p0) → (p0 = 25 → a_row_18 0 = a_row 0) → (p0 = 25 → ∀ j : Nat, j < 25 → a_row_18 j = a_row j) → (DayC a_child a_laws (mSick (xR a_row (p0 + 1)) n) a_row_11 a_row_18 n p0 k_16) → (¬ n ≤ k_16) → (RowOk a_row_27) → (a_row_27 p0 = a_row p0) → (p0 = 25 → a_row_27 0 = a_row 0) → (p0 = 25 → ∀ j : Nat, j < 25 → a_row_27 j = a_row j) → (DayC a_child a_laws (mSick (xR a_row (p0 + 1)) n) a_row_11 a_row_27 n p0 (k_16 + 1)) → Sx p l e rmX9_dayGoes s m args below meth c D vwCl A 4 Q 240 [(0, .ref (b 0)), (1, .int v_3), (2, .int (mSick (xR a_row (p0 + 1)) n)), (3, .int (nI k_16))] [] [(b 0, .inr (9, [.int (nI n), .ref (b 1), .ref (b 2), .int (nI p0), .ref (b 3), .ref (b 4), .ref (b 5), .ref (b 6), .ref (b 7), .ref (b 8), .int (I 10), .ref (b 9), .int (nI t), .int (I 13), .int (I 14), .int (I 15), .long W, .int (I 17), .int (I 18), .int (I 19), .int (I 20), .ref (b 10), .ref (b 11), .ref (b 12), .ref (b 13), .ref (b 14), .ref (b 15), .int (nI q), .int (nI mm), .ref (b 16), .ref (b 17), .ref (b 18), .ref (b 19), .ref (b 20), .ref (b 21), .int (I 35), .int (I 36), .int (I 37), .ref (b 22), .int (nI bd), .int (I 40), .int (I 41), .ref (b 23), .int (I 43), .ref (b 24)])), (b 1, .inl (g 0, 32, .inl a_child)), (b 2, .inl (g 0, 50, .inl a_row_27)), (b 3, .inl (g 0, 40, .inl a_events)), (b 6, .inl (g 0, 4, .inl a_laws))] := by
                intro a_row_27 hpre0 h_5 h14 h_10 ok_a_row_11 heq_12 hz_13 hy_14 hB_15 h48 h_17 ok_a_row_18 heq_19 hz_20 hy_21 hC_22 h183 ok_a_row_27 heq_28 hz_29 hy_30 hC_31
                refine s_iinc (lv' := [(3, _), (0, _), (1, _), (2, _)]) (k := 3) B dX9_dayGoes_240 rfl (ii_n _) (Nat.le_of_ble_eq_true rfl) rfl ?_
                refine s_goto (tgt := 178) B dX9_dayGoes_243 rfl ?_
                refine s_lv (lv' := [(0, _), (1, _), (2, _), (3, _)]) [1, 2, 3, 0] rfl ?_
                exact ih178 (k_16 + 1) a_row_27 (meas_s hj178 h183) hpre0 h_5 hT_6 h14 h_10 ok_a_row_11 heq_12 hz_13 hy_14 hB_15 h48 (by omega) ok_a_row_27 heq_28 (fun hz => ((hz_29 hz).trans rfl)) (fun hz j hj => ((hy_30 hz j hj).trans rfl)) hC_31
              refine s_iload_n B dX9_dayGoes_178 rfl 3 rfl ?_
              refine s_aload_n B dX9_dayGoes_179 rfl 0 rfl ?_
              refine s_get (T := TX9) B inX9 0 rfl rfl 0 (Nat.le_of_ble_eq_true rfl) fl_X9_91 rfl rfl dX9_dayGoes_180 ?_
              refine s_icmp_ge (tgt := 246) B dX9_dayGoes_183 rfl (fun h183 => ?_) (fun h183 => ?_)
              · replace h183 : n ≤ k_16 := (nI_leI (a := n) (b := k_16) (by omega) (by omega)).mp h183
                have hrz : a_row_18 p0 = nI dz := heq_19.trans hrz0
                refine s_aload_n B dX9_dayGoes_246 rfl 0 rfl ?_
                refine s_get (T := TX9) B inX9 0 rfl rfl 2 (Nat.le_of_ble_eq_true rfl) fl_X9_13 rfl rfl dX9_dayGoes_247 ?_
                refine s_aload_n B dX9_dayGoes_250 rfl 0 rfl ?_
                refine s_get (T := TX9) B inX9 0 rfl rfl 3 (Nat.le_of_ble_eq_true rfl) fl_X9_222 rfl rfl dX9_dayGoes_251 ?_
                refine s_dup2_11 B dX9_dayGoes_254 rfl rfl ?_
                refine s_ialdN B 2 0 rfl rfl dX9_dayGoes_255 (by omega) (by decide) ?_
                refine s_st (st' := [.int (nI dz), .int (nI p0), .ref (b 2)]) (by rw [hrz]) ?_
                refine s_iconst B dX9_dayGoes_256 ic_1 ?_
                refine s_iaddE B dX9_dayGoes_257 (nI_add dz 1) ?_
                refine s_iastN (ws' := [_, _, _, _, _]) B 2 0 rfl rfl rfl dX9_dayGoes_258 (by omega) (by decide) ?_
                refine s_iload_n B dX9_dayGoes_259 rfl 1 rfl ?_
                refine s_iret B hQ hr dX9_dayGoes_260 rfl ?_
                exact ⟨(upd a_row_18 p0 (nI (dz + 1))), (RowOk.put ok_a_row_18 ⟨(dz + 1), by omega, rfl⟩), fun d0 hd0 h0 => by rw [upd_is, (nI_eq (by omega) (by omega)).mp (hrz0.symm.trans h0)], (fun hz => ((upd_ne _ _ (by omega)).trans ((hz_20 hz).trans rfl))), (fun d0 hd0 h0 => by have e9 : d0 = dz := (nI_eq (by omega) (by omega)).mp (h0.symm.trans hrz0); rw [e9]; exact ⟨hT_6.trans (by rw [show k_4 = n from by omega]; rfl), DayP_of hB_15 hC_22 hn (by omega) (by omega) rfl⟩), (fun hz j hj => ((upd_ne _ _ (by omega)).trans ((hy_21 hz j hj).trans rfl))), rfl⟩
              · replace h183 : ¬ n ≤ k_16 := fun hh => h183 ((nI_leI (a := n) (b := k_16) (by omega) (by omega)).mpr hh)
                refine s_aload_n B dX9_dayGoes_186 rfl 0 rfl ?_
                refine s_iload_n B dX9_dayGoes_187 rfl 3 rfl ?_
                refine s_iconst B dX9_dayGoes_188 ic_0 ?_
                refine s_callVi B hsc (c_X9_its l D g b (upd (upd (upd (upd I 12 (nI t)) 27 (nI q)) 28 (nI mm)) 39 (nI bd)) W n p0 a_child k_16 0 (by omega) (by omega)) (gw_V ml_X9_209 im_yX9_its se_yX9_its ini_RX9 co_yX9_its) hd_X9_its rfl rfl ⟨(Nat.le_of_ble_eq_true rfl), (Nat.le_of_ble_eq_true rfl)⟩ [0, 1] [0, 1, 2, 3, 4] rfl rfl rfl (ci := 9) (q0 := 0) rfl rfl rfl rfl rfl (Nat.le_of_ble_eq_true rfl) dX9_dayGoes_189 (fun r_23 u_24 hpo => ?_)
                obtain ⟨rfl, rfl⟩ := hpo
                refine s_st (st' := [.int (a_child (4 * k_16 + 0))]) rfl ?_
                refine s_ws (ws' := [(b 0, .inr (9, [.int (nI n), .ref (b 1), .ref (b 2), .int (nI p0), .ref (b 3), .ref (b 4), .ref (b 5), .ref (b 6), .ref (b 7), .ref (b 8), .int (I 10), .ref (b 9), .int (nI t), .int (I 13), .int (I 14), .int (I 15), .long W, .int (I 17), .int (I 18), .int (I 19), .int (I 20), .ref (b 10), .ref (b 11), .ref (b 12), .ref (b 13), .ref (b 14), .ref (b 15), .int (nI q), .int (nI mm), .ref (b 16), .ref (b 17), .ref (b 18), .ref (b 19), .ref (b 20), .ref (b 21), .int (I 35), .int (I 36), .int (I 37), .ref (b 22), .int (nI bd), .int (I 40), .int (I 41), .ref (b 23), .int (I 43), .ref (b 24)])), (b 1, .inl (g 0, 32, .inl a_child)), (b 2, .inl (g 0, 50, .inl a_row_18)), (b 3, .inl (g 0, 40, .inl a_events)), (b 6, .inl (g 0, 4, .inl a_laws))]) rfl ?_
                refine s_iconst B dX9_dayGoes_192 ic_5 ?_
                refine s_icmp_ne (tgt := 240) B dX9_dayGoes_193 rfl (fun h193 => ?_) (fun h193 => ?_)
                · refine s_lv (lv' := [(0, _), (1, _), (2, _), (3, _)]) [0, 1, 2, 3] rfl ?_
                  exact M240 a_row_18 hpre0 h_5 h14 h_10 ok_a_row_11 heq_12 hz_13 hy_14 hB_15 h48 h_17 ok_a_row_18 heq_19 hz_20 hy_21 hC_22 h183 ok_a_row_18 heq_19 (fun hz => ((hz_20 hz).trans rfl)) (fun hz j hj => ((hy_21 hz j hj).trans rfl)) (DayC_n hC_22 (fCa_f hC_22 (by omega) (Or.inl h193)))
                · refine s_aload_n B dX9_dayGoes_196 rfl 0 rfl ?_
                  refine s_get (T := TX9) B inX9 0 rfl rfl 2 (Nat.le_of_ble_eq_true rfl) fl_X9_13 rfl rfl dX9_dayGoes_197 ?_
                  refine s_aload_n B dX9_dayGoes_200 rfl 0 rfl ?_
                  refine s_get (T := TX9) B inX9 0 rfl rfl 3 (Nat.le_of_ble_eq_true rfl) fl_X9_222 rfl rfl dX9_dayGoes_201 ?_
                  refine s_iconst B dX9_dayGoes_204 ic_1 ?_
                  refine s_iaddE B dX9_dayGoes_205 (nI_add p0 1) ?_
                  refine s_iload_n B dX9_dayGoes_206 rfl 3 rfl ?_
                  refine s_iaddE B dX9_dayGoes_207 (nI_add (p0 + 1) k_16) ?_
                  refine s_ialdN B 2 0 rfl rfl dX9_dayGoes_208 (by omega) (by decide) ?_
                  refine s_if_ne (tgt := 240) B dX9_dayGoes_209 rfl (fun h209 => ?_) (fun h209 => ?_)
                  · refine s_lv (lv' := [(0, _), (1, _), (2, _), (3, _)]) [0, 1, 2, 3] rfl ?_
                    exact M240 a_row_18 hpre0 h_5 h14 h_10 ok_a_row_11 heq_12 hz_13 hy_14 hB_15 h48 h_17 ok_a_row_18 heq_19 hz_20 hy_21 hC_22 h183 ok_a_row_18 heq_19 (fun hz => ((hz_20 hz).trans rfl)) (fun hz j hj => ((hy_21 hz j hj).trans rfl)) (DayC_n hC_22 (fCa_f hC_22 (by omega) (Or.inr (Or.inl h209))))
                  · refine s_aload_n B dX9_dayGoes_212 rfl 0 rfl ?_
                    refine s_iload_n B dX9_dayGoes_213 rfl 3 rfl ?_
                    refine s_iload_n B dX9_dayGoes_214 rfl 2 rfl ?_
                    refine s_callVi B hsc (c_X9_catches l D g b (upd (upd (upd (upd I 12 (nI t)) 27 (nI q)) 28 (nI mm)) 39 (nI bd)) W n p0 a_child a_laws k_16 (mSick (xR a_row (p0 + 1)) n) (by omega) (by omega)) (gw_V ml_X9_235 im_yX9_catches se_yX9_catches ini_RX9 co_yX9_catches) hd_X9_catches rfl rfl ⟨(Nat.le_of_ble_eq_true rfl), (Nat.le_of_ble_eq_true rfl)⟩ [0, 1, 4] [0, 1, 2, 3, 4] rfl rfl rfl (ci := 9) (q0 := 0) rfl rfl rfl rfl rfl (Nat.le_of_ble_eq_true rfl) dX9_dayGoes_215 (fun r_25 u_26 hpo => ?_)
                    obtain ⟨rfl, rfl⟩ := hpo
                    refine s_st (st' := [.int (if mTouch (fun o => a_child (4 * o + 2)) a_laws (mSick (xR a_row (p0 + 1)) n) n k_16 = true then 1 else 0)]) rfl ?_
                    refine s_ws (ws' := [(b 0, .inr (9, [.int (nI n), .ref (b 1), .ref (b 2), .int (nI p0), .ref (b 3), .ref (b 4), .ref (b 5), .ref (b 6), .ref (b 7), .ref (b 8), .int (I 10), .ref (b 9), .int (nI t), .int (I 13), .int (I 14), .int (I 15), .long W, .int (I 17), .int (I 18), .int (I 19), .int (I 20), .ref (b 10), .ref (b 11), .ref (b 12), .ref (b 13), .ref (b 14), .ref (b 15), .int (nI q), .int (nI mm), .ref (b 16), .ref (b 17), .ref (b 18), .ref (b 19), .ref (b 20), .ref (b 21), .int (I 35), .int (I 36), .int (I 37), .ref (b 22), .int (nI bd), .int (I 40), .int (I 41), .ref (b 23), .int (I 43), .ref (b 24)])), (b 1, .inl (g 0, 32, .inl a_child)), (b 2, .inl (g 0, 50, .inl a_row_18)), (b 3, .inl (g 0, 40, .inl a_events)), (b 6, .inl (g 0, 4, .inl a_laws))]) rfl ?_
                    refine s_bif_eq (tgt := 240) B dX9_dayGoes_218 rfl (fun h218 => ?_) (fun h218 => ?_)
                    · refine s_lv (lv' := [(0, _), (1, _), (2, _), (3, _)]) [0, 1, 2, 3] rfl ?_
                      exact M240 a_row_18 hpre0 h_5 h14 h_10 ok_a_row_11 heq_12 hz_13 hy_14 hB_15 h48 h_17 ok_a_row_18 heq_19 hz_20 hy_21 hC_22 h183 ok_a_row_18 heq_19 (fun hz => ((hz_20 hz).trans rfl)) (fun hz j hj => ((hy_21 hz j hj).trans rfl)) (DayC_n hC_22 (fCa_f hC_22 (by omega) (Or.inr (Or.inr h218))))
                    · refine s_aload_n B dX9_dayGoes_221 rfl 0 rfl ?_
                      refine s_get (T := TX9) B inX9 0 rfl rfl 2 (Nat.le_of_ble_eq_true rfl) fl_X9_13 rfl rfl dX9_dayGoes_222 ?_
                      refine s_aload_n B dX9_dayGoes_225 rfl 0 rfl ?_
                      refine s_get (T := TX9) B inX9 0 rfl rfl 3 (Nat.le_of_ble_eq_true rfl) fl_X9_222 rfl rfl dX9_dayGoes_226 ?_
                      refine s_iconst B dX9_dayGoes_229 ic_1 ?_
                      refine s_iaddE B dX9_dayGoes_230 (nI_add p0 1) ?_
                      refine s_iload_n B dX9_dayGoes_231 rfl 3 rfl ?_
                      refine s_iaddE B dX9_dayGoes_232 (nI_add (p0 + 1) k_16) ?_
                      refine s_aload_n B dX9_dayGoes_233 rfl 0 rfl ?_
                      refine s_get (T := TX9) B inX9 0 rfl rfl 7 (Nat.le_of_ble_eq_true rfl) fl_X9_25 rfl rfl dX9_dayGoes_234 ?_
                      refine s_iconst B dX9_dayGoes_237 ic_3 ?_
                      refine s_ialdN B 4 0 rfl rfl dX9_dayGoes_238 (by decide) (by decide) ?_
                      refine s_iastN (ws' := [_, _, _, _, _]) B 2 0 rfl rfl rfl dX9_dayGoes_239 (by omega) (by decide) ?_
                      refine s_lv (lv' := [(0, _), (1, _), (2, _), (3, _)]) [0, 1, 2, 3] rfl ?_
                      exact M240 (upd a_row_18 ((p0 + 1) + k_16) (a_laws 3)) hpre0 h_5 h14 h_10 ok_a_row_11 heq_12 hz_13 hy_14 hB_15 h48 h_17 ok_a_row_18 heq_19 hz_20 hy_21 hC_22 h183 (RowOk.set ok_a_row_18 (by omega) (by omega)) ((upd_ne _ _ (by omega)).trans heq_19) (fun hz => ((upd_ne _ _ (by omega)).trans ((hz_20 hz).trans rfl))) (fun hz j hj => ((upd_ne _ _ (by omega)).trans ((hy_21 hz j hj).trans rfl))) (DayC_y hC_22 (by omega) (fCa_t hC_22 (by omega) h193 h209 h218))
          refine s_iload_n B dX9_dayGoes_43 rfl 3 rfl ?_
          refine s_aload_n B dX9_dayGoes_44 rfl 0 rfl ?_
          refine s_get (T := TX9) B inX9 0 rfl rfl 0 (Nat.le_of_ble_eq_true rfl) fl_X9_91 rfl rfl dX9_dayGoes_45 ?_
          refine s_icmp_ge (tgt := 176) B dX9_dayGoes_48 rfl (fun h48 => ?_) (fun h48 => ?_)
          · replace h48 : n ≤ k_9 := (nI_leI (a := n) (b := k_9) (by omega) (by omega)).mp h48
            refine s_iconst B dX9_dayGoes_176 ic_0 ?_
            refine s_istore_n (lv' := [(3, _), (0, _), (1, _), (2, _)]) B dX9_dayGoes_177 rfl (Nat.le_of_ble_eq_true rfl) rfl ?_
            refine s_lv (lv' := [(0, _), (1, _), (2, _), (3, _)]) [1, 2, 3, 0] rfl ?_
            refine s_lve (lv' := [(0, .ref (b 0)), (1, .int v_3), (2, .int (mSick (xR a_row (p0 + 1)) n)), (3, .int (nI 0))]) (by first | rfl | (simp only [if_pos, if_neg]; done)) ?_
            exact L178 _ 0 a_row_11 (Nat.lt_succ_self _) hpre0 h_5 hT_6 h14 h_10 ok_a_row_11 heq_12 hz_13 hy_14 hB_15 h48 (by omega) ok_a_row_11 heq_12 (fun hz => ((hz_13 hz).trans rfl)) (fun hz j hj => ((hy_14 hz j hj).trans rfl)) DayC_0
          · replace h48 : ¬ n ≤ k_9 := fun hh => h48 ((nI_leI (a := n) (b := k_9) (by omega) (by omega)).mpr hh)
            refine s_aload_n B dX9_dayGoes_51 rfl 0 rfl ?_
            refine s_get (T := TX9) B inX9 0 rfl rfl 2 (Nat.le_of_ble_eq_true rfl) fl_X9_13 rfl rfl dX9_dayGoes_52 ?_
            refine s_aload_n B dX9_dayGoes_55 rfl 0 rfl ?_
            refine s_get (T := TX9) B inX9 0 rfl rfl 3 (Nat.le_of_ble_eq_true rfl) fl_X9_222 rfl rfl dX9_dayGoes_56 ?_
            refine s_bipush B dX9_dayGoes_59 bp_17 ?_
            refine s_iaddE B dX9_dayGoes_61 (nI_add p0 17) ?_
            refine s_iload_n B dX9_dayGoes_62 rfl 3 rfl ?_
            refine s_iaddE B dX9_dayGoes_63 (nI_add (p0 + 17) k_9) ?_
            refine s_iload_n B dX9_dayGoes_64 rfl 1 rfl ?_
            refine s_iload_n B dX9_dayGoes_65 rfl 3 rfl ?_
            refine s_ishr B dX9_dayGoes_66 ?_
            refine s_iconst B dX9_dayGoes_67 ic_1 ?_
            refine s_iand B dX9_dayGoes_68 ?_
            refine s_iconst B dX9_dayGoes_69 ic_1 ?_
            refine s_icmp_ne (tgt := 77) B dX9_dayGoes_70 rfl (fun h70 => ?_) (fun h70 => ?_)
            · refine s_aload_n B dX9_dayGoes_77 rfl 0 rfl ?_
              refine s_get (T := TX9) B inX9 0 rfl rfl 2 (Nat.le_of_ble_eq_true rfl) fl_X9_13 rfl rfl dX9_dayGoes_78 ?_
              refine s_aload_n B dX9_dayGoes_81 rfl 0 rfl ?_
              refine s_get (T := TX9) B inX9 0 rfl rfl 3 (Nat.le_of_ble_eq_true rfl) fl_X9_222 rfl rfl dX9_dayGoes_82 ?_
              refine s_bipush B dX9_dayGoes_85 bp_17 ?_
              refine s_iaddE B dX9_dayGoes_87 (nI_add p0 17) ?_
              refine s_iload_n B dX9_dayGoes_88 rfl 3 rfl ?_
              refine s_iaddE B dX9_dayGoes_89 (nI_add (p0 + 17) k_9) ?_
              refine s_ialdN B 2 0 rfl rfl dX9_dayGoes_90 (by omega) (by decide) ?_
              refine s_iconst B dX9_dayGoes_91 ic_1 ?_
              refine s_iadd B dX9_dayGoes_92 ?_
              refine s_iastN (ws' := [_, _, _, _, _]) B 2 0 rfl rfl rfl dX9_dayGoes_93 (by omega) (by decide) ?_
              refine s_aload_n B dX9_dayGoes_94 rfl 0 rfl ?_
              refine s_get (T := TX9) B inX9 0 rfl rfl 2 (Nat.le_of_ble_eq_true rfl) fl_X9_13 rfl rfl dX9_dayGoes_95 ?_
              refine s_aload_n B dX9_dayGoes_98 rfl 0 rfl ?_
              refine s_get (T := TX9) B inX9 0 rfl rfl 3 (Nat.le_of_ble_eq_true rfl) fl_X9_222 rfl rfl dX9_dayGoes_99 ?_
              refine s_iconst B dX9_dayGoes_102 ic_1 ?_
              refine s_iaddE B dX9_dayGoes_103 (nI_add p0 1) ?_
              refine s_iload_n B dX9_dayGoes_104 rfl 3 rfl ?_
              refine s_iaddE B dX9_dayGoes_105 (nI_add (p0 + 1) k_9) ?_
              refine s_dup2_11 B dX9_dayGoes_106 rfl rfl ?_
              refine s_ialdN B 2 0 rfl rfl dX9_dayGoes_107 (by omega) (by decide) ?_
              refine s_aload_n B dX9_dayGoes_108 rfl 0 rfl ?_
              refine s_get (T := TX9) B inX9 0 rfl rfl 2 (Nat.le_of_ble_eq_true rfl) fl_X9_13 rfl rfl dX9_dayGoes_109 ?_
              refine s_aload_n B dX9_dayGoes_112 rfl 0 rfl ?_
              refine s_get (T := TX9) B inX9 0 rfl rfl 3 (Nat.le_of_ble_eq_true rfl) fl_X9_222 rfl rfl dX9_dayGoes_113 ?_
              refine s_iconst B dX9_dayGoes_116 ic_1 ?_
              refine s_iaddE B dX9_dayGoes_117 (nI_add p0 1) ?_
              refine s_iload_n B dX9_dayGoes_118 rfl 3 rfl ?_
              refine s_iaddE B dX9_dayGoes_119 (nI_add (p0 + 1) k_9) ?_
              refine s_ialdN B 2 0 rfl rfl dX9_dayGoes_120 (by omega) (by decide) ?_
              refine s_if_le (tgt := 128) B dX9_dayGoes_121 rfl (fun h121 => ?_) (fun h121 => ?_)
              · refine s_iconst B dX9_dayGoes_128 ic_0 ?_
                refine s_isub B dX9_dayGoes_129 ?_
                refine s_iastN (ws' := [_, _, _, _, _]) B 2 0 rfl rfl rfl dX9_dayGoes_130 (by omega) (by decide) ?_
                refine s_aload_n B dX9_dayGoes_131 rfl 0 rfl ?_
                refine s_get (T := TX9) B inX9 0 rfl rfl 2 (Nat.le_of_ble_eq_true rfl) fl_X9_13 rfl rfl dX9_dayGoes_132 ?_
                refine s_aload_n B dX9_dayGoes_135 rfl 0 rfl ?_
                refine s_get (T := TX9) B inX9 0 rfl rfl 3 (Nat.le_of_ble_eq_true rfl) fl_X9_222 rfl rfl dX9_dayGoes_136 ?_
                refine s_bipush B dX9_dayGoes_139 bp_9 ?_
                refine s_iaddE B dX9_dayGoes_141 (nI_add p0 9) ?_
                refine s_iload_n B dX9_dayGoes_142 rfl 3 rfl ?_
                refine s_iaddE B dX9_dayGoes_143 (nI_add (p0 + 9) k_9) ?_
                refine s_dup2_11 B dX9_dayGoes_144 rfl rfl ?_
                refine s_ialdN B 2 0 rfl rfl dX9_dayGoes_145 (by omega) (by decide) ?_
                refine s_aload_n B dX9_dayGoes_146 rfl 0 rfl ?_
                refine s_get (T := TX9) B inX9 0 rfl rfl 2 (Nat.le_of_ble_eq_true rfl) fl_X9_13 rfl rfl dX9_dayGoes_147 ?_
                refine s_aload_n B dX9_dayGoes_150 rfl 0 rfl ?_
                refine s_get (T := TX9) B inX9 0 rfl rfl 3 (Nat.le_of_ble_eq_true rfl) fl_X9_222 rfl rfl dX9_dayGoes_151 ?_
                refine s_bipush B dX9_dayGoes_154 bp_9 ?_
                refine s_iaddE B dX9_dayGoes_156 (nI_add p0 9) ?_
                refine s_iload_n B dX9_dayGoes_157 rfl 3 rfl ?_
                refine s_iaddE B dX9_dayGoes_158 (nI_add (p0 + 9) k_9) ?_
                refine s_ialdN B 2 0 rfl rfl dX9_dayGoes_159 (by omega) (by decide) ?_
                refine s_if_le (tgt := 167) B dX9_dayGoes_160 rfl (fun h160 => ?_) (fun h160 => ?_)
                · refine s_iconst B dX9_dayGoes_167 ic_0 ?_
                  refine s_isub B dX9_dayGoes_168 ?_
                  refine s_iastN (ws' := [_, _, _, _, _]) B 2 0 rfl rfl rfl dX9_dayGoes_169 (by omega) (by decide) ?_
                  refine s_iinc (lv' := [(3, _), (0, _), (1, _), (2, _)]) (k := 3) B dX9_dayGoes_170 rfl (ii_n _) (Nat.le_of_ble_eq_true rfl) rfl ?_
                  refine s_goto (tgt := 43) B dX9_dayGoes_173 rfl ?_
                  refine s_lv (lv' := [(0, _), (1, _), (2, _), (3, _)]) [1, 2, 3, 0] rfl ?_
                  exact ih43 (k_9 + 1) (upd (upd (upd a_row_11 ((p0 + 17) + k_9) ((a_row_11 ((p0 + 17) + k_9)) + 1)) ((p0 + 1) + k_9) (((upd a_row_11 ((p0 + 17) + k_9) ((a_row_11 ((p0 + 17) + k_9)) + 1)) ((p0 + 1) + k_9)) - 0)) ((p0 + 9) + k_9) (((upd (upd a_row_11 ((p0 + 17) + k_9) ((a_row_11 ((p0 + 17) + k_9)) + 1)) ((p0 + 1) + k_9) (((upd a_row_11 ((p0 + 17) + k_9) ((a_row_11 ((p0 + 17) + k_9)) + 1)) ((p0 + 1) + k_9)) - 0)) ((p0 + 9) + k_9)) - 0)) (by omega) hpre0 h_5 hT_6 h14 (by omega) (RowOk.set (RowOk.set (RowOk.set ok_a_row_11 (by omega) (by omega)) (by omega) (by omega)) (by omega) (by omega)) ((upd_ne _ _ (by omega)).trans ((upd_ne _ _ (by omega)).trans ((upd_ne _ _ (by omega)).trans heq_12))) (fun hz => ((upd_ne _ _ (by omega)).trans ((upd_ne _ _ (by omega)).trans ((upd_ne _ _ (by omega)).trans ((hz_13 hz).trans rfl))))) (fun hz j hj => ((upd_ne _ _ (by omega)).trans ((upd_ne _ _ (by omega)).trans ((upd_ne _ _ (by omega)).trans ((hy_14 hz j hj).trans rfl))))) (DayB_s hB_15 (by omega) (aw_1 h70) (dec_0 (upd_ne _ _ (by omega)) h121) (dec_0 ((upd_ne _ _ (by omega)).trans (upd_ne _ _ (by omega))) h160))
                · refine s_iconst B dX9_dayGoes_163 ic_1 ?_
                  refine s_goto (tgt := 168) B dX9_dayGoes_164 rfl ?_
                  refine s_isub B dX9_dayGoes_168 ?_
                  refine s_iastN (ws' := [_, _, _, _, _]) B 2 0 rfl rfl rfl dX9_dayGoes_169 (by omega) (by decide) ?_
                  refine s_iinc (lv' := [(3, _), (0, _), (1, _), (2, _)]) (k := 3) B dX9_dayGoes_170 rfl (ii_n _) (Nat.le_of_ble_eq_true rfl) rfl ?_
                  refine s_goto (tgt := 43) B dX9_dayGoes_173 rfl ?_
                  refine s_lv (lv' := [(0, _), (1, _), (2, _), (3, _)]) [1, 2, 3, 0] rfl ?_
                  exact ih43 (k_9 + 1) (upd (upd (upd a_row_11 ((p0 + 17) + k_9) ((a_row_11 ((p0 + 17) + k_9)) + 1)) ((p0 + 1) + k_9) (((upd a_row_11 ((p0 + 17) + k_9) ((a_row_11 ((p0 + 17) + k_9)) + 1)) ((p0 + 1) + k_9)) - 0)) ((p0 + 9) + k_9) (((upd (upd a_row_11 ((p0 + 17) + k_9) ((a_row_11 ((p0 + 17) + k_9)) + 1)) ((p0 + 1) + k_9) (((upd a_row_11 ((p0 + 17) + k_9) ((a_row_11 ((p0 + 17) + k_9)) + 1)) ((p0 + 1) + k_9)) - 0)) ((p0 + 9) + k_9)) - 1)) (by omega) hpre0 h_5 hT_6 h14 (by omega) (RowOk.set (RowOk.set (RowOk.set ok_a_row_11 (by omega) (by omega)) (by omega) (by omega)) (by omega) (by omega)) ((upd_ne _ _ (by omega)).trans ((upd_ne _ _ (by omega)).trans ((upd_ne _ _ (by omega)).trans heq_12))) (fun hz => ((upd_ne _ _ (by omega)).trans ((upd_ne _ _ (by omega)).trans ((upd_ne _ _ (by omega)).trans ((hz_13 hz).trans rfl))))) (fun hz j hj => ((upd_ne _ _ (by omega)).trans ((upd_ne _ _ (by omega)).trans ((upd_ne _ _ (by omega)).trans ((hy_14 hz j hj).trans rfl))))) (DayB_s hB_15 (by omega) (aw_1 h70) (dec_0 (upd_ne _ _ (by omega)) h121) (dec_1 ((upd_ne _ _ (by omega)).trans (upd_ne _ _ (by omega))) h160))
              · refine s_iconst B dX9_dayGoes_124 ic_1 ?_
                refine s_goto (tgt := 129) B dX9_dayGoes_125 rfl ?_
                refine s_isub B dX9_dayGoes_129 ?_
                refine s_iastN (ws' := [_, _, _, _, _]) B 2 0 rfl rfl rfl dX9_dayGoes_130 (by omega) (by decide) ?_
                refine s_aload_n B dX9_dayGoes_131 rfl 0 rfl ?_
                refine s_get (T := TX9) B inX9 0 rfl rfl 2 (Nat.le_of_ble_eq_true rfl) fl_X9_13 rfl rfl dX9_dayGoes_132 ?_
                refine s_aload_n B dX9_dayGoes_135 rfl 0 rfl ?_
                refine s_get (T := TX9) B inX9 0 rfl rfl 3 (Nat.le_of_ble_eq_true rfl) fl_X9_222 rfl rfl dX9_dayGoes_136 ?_
                refine s_bipush B dX9_dayGoes_139 bp_9 ?_
                refine s_iaddE B dX9_dayGoes_141 (nI_add p0 9) ?_
                refine s_iload_n B dX9_dayGoes_142 rfl 3 rfl ?_
                refine s_iaddE B dX9_dayGoes_143 (nI_add (p0 + 9) k_9) ?_
                refine s_dup2_11 B dX9_dayGoes_144 rfl rfl ?_
                refine s_ialdN B 2 0 rfl rfl dX9_dayGoes_145 (by omega) (by decide) ?_
                refine s_aload_n B dX9_dayGoes_146 rfl 0 rfl ?_
                refine s_get (T := TX9) B inX9 0 rfl rfl 2 (Nat.le_of_ble_eq_true rfl) fl_X9_13 rfl rfl dX9_dayGoes_147 ?_
                refine s_aload_n B dX9_dayGoes_150 rfl 0 rfl ?_
                refine s_get (T := TX9) B inX9 0 rfl rfl 3 (Nat.le_of_ble_eq_true rfl) fl_X9_222 rfl rfl dX9_dayGoes_151 ?_
                refine s_bipush B dX9_dayGoes_154 bp_9 ?_
                refine s_iaddE B dX9_dayGoes_156 (nI_add p0 9) ?_
                refine s_iload_n B dX9_dayGoes_157 rfl 3 rfl ?_
                refine s_iaddE B dX9_dayGoes_158 (nI_add (p0 + 9) k_9) ?_
                refine s_ialdN B 2 0 rfl rfl dX9_dayGoes_159 (by omega) (by decide) ?_
                refine s_if_le (tgt := 167) B dX9_dayGoes_160 rfl (fun h160 => ?_) (fun h160 => ?_)
                · refine s_iconst B dX9_dayGoes_167 ic_0 ?_
                  refine s_isub B dX9_dayGoes_168 ?_
                  refine s_iastN (ws' := [_, _, _, _, _]) B 2 0 rfl rfl rfl dX9_dayGoes_169 (by omega) (by decide) ?_
                  refine s_iinc (lv' := [(3, _), (0, _), (1, _), (2, _)]) (k := 3) B dX9_dayGoes_170 rfl (ii_n _) (Nat.le_of_ble_eq_true rfl) rfl ?_
                  refine s_goto (tgt := 43) B dX9_dayGoes_173 rfl ?_
                  refine s_lv (lv' := [(0, _), (1, _), (2, _), (3, _)]) [1, 2, 3, 0] rfl ?_
                  exact ih43 (k_9 + 1) (upd (upd (upd a_row_11 ((p0 + 17) + k_9) ((a_row_11 ((p0 + 17) + k_9)) + 1)) ((p0 + 1) + k_9) (((upd a_row_11 ((p0 + 17) + k_9) ((a_row_11 ((p0 + 17) + k_9)) + 1)) ((p0 + 1) + k_9)) - 1)) ((p0 + 9) + k_9) (((upd (upd a_row_11 ((p0 + 17) + k_9) ((a_row_11 ((p0 + 17) + k_9)) + 1)) ((p0 + 1) + k_9) (((upd a_row_11 ((p0 + 17) + k_9) ((a_row_11 ((p0 + 17) + k_9)) + 1)) ((p0 + 1) + k_9)) - 1)) ((p0 + 9) + k_9)) - 0)) (by omega) hpre0 h_5 hT_6 h14 (by omega) (RowOk.set (RowOk.set (RowOk.set ok_a_row_11 (by omega) (by omega)) (by omega) (by omega)) (by omega) (by omega)) ((upd_ne _ _ (by omega)).trans ((upd_ne _ _ (by omega)).trans ((upd_ne _ _ (by omega)).trans heq_12))) (fun hz => ((upd_ne _ _ (by omega)).trans ((upd_ne _ _ (by omega)).trans ((upd_ne _ _ (by omega)).trans ((hz_13 hz).trans rfl))))) (fun hz j hj => ((upd_ne _ _ (by omega)).trans ((upd_ne _ _ (by omega)).trans ((upd_ne _ _ (by omega)).trans ((hy_14 hz j hj).trans rfl))))) (DayB_s hB_15 (by omega) (aw_1 h70) (dec_1 (upd_ne _ _ (by omega)) h121) (dec_0 ((upd_ne _ _ (by omega)).trans (upd_ne _ _ (by omega))) h160))
                · refine s_iconst B dX9_dayGoes_163 ic_1 ?_
                  refine s_goto (tgt := 168) B dX9_dayGoes_164 rfl ?_
                  refine s_isub B dX9_dayGoes_168 ?_
                  refine s_iastN (ws' := [_, _, _, _, _]) B 2 0 rfl rfl rfl dX9_dayGoes_169 (by omega) (by decide) ?_
                  refine s_iinc (lv' := [(3, _), (0, _), (1, _), (2, _)]) (k := 3) B dX9_dayGoes_170 rfl (ii_n _) (Nat.le_of_ble_eq_true rfl) rfl ?_
                  refine s_goto (tgt := 43) B dX9_dayGoes_173 rfl ?_
                  refine s_lv (lv' := [(0, _), (1, _), (2, _), (3, _)]) [1, 2, 3, 0] rfl ?_
                  exact ih43 (k_9 + 1) (upd (upd (upd a_row_11 ((p0 + 17) + k_9) ((a_row_11 ((p0 + 17) + k_9)) + 1)) ((p0 + 1) + k_9) (((upd a_row_11 ((p0 + 17) + k_9) ((a_row_11 ((p0 + 17) + k_9)) + 1)) ((p0 + 1) + k_9)) - 1)) ((p0 + 9) + k_9) (((upd (upd a_row_11 ((p0 + 17) + k_9) ((a_row_11 ((p0 + 17) + k_9)) + 1)) ((p0 + 1) + k_9) (((upd a_row_11 ((p0 + 17) + k_9) ((a_row_11 ((p0 + 17) + k_9)) + 1)) ((p0 + 1) + k_9)) - 1)) ((p0 + 9) + k_9)) - 1)) (by omega) hpre0 h_5 hT_6 h14 (by omega) (RowOk.set (RowOk.set (RowOk.set ok_a_row_11 (by omega) (by omega)) (by omega) (by omega)) (by omega) (by omega)) ((upd_ne _ _ (by omega)).trans ((upd_ne _ _ (by omega)).trans ((upd_ne _ _ (by omega)).trans heq_12))) (fun hz => ((upd_ne _ _ (by omega)).trans ((upd_ne _ _ (by omega)).trans ((upd_ne _ _ (by omega)).trans ((hz_13 hz).trans rfl))))) (fun hz j hj => ((upd_ne _ _ (by omega)).trans ((upd_ne _ _ (by omega)).trans ((upd_ne _ _ (by omega)).trans ((hy_14 hz j hj).trans rfl))))) (DayB_s hB_15 (by omega) (aw_1 h70) (dec_1 (upd_ne _ _ (by omega)) h121) (dec_1 ((upd_ne _ _ (by omega)).trans (upd_ne _ _ (by omega))) h160))
            · refine s_iconst B dX9_dayGoes_73 ic_0 ?_
              refine s_goto (tgt := 93) B dX9_dayGoes_74 rfl ?_
              refine s_iastN (ws' := [_, _, _, _, _]) B 2 0 rfl rfl rfl dX9_dayGoes_93 (by omega) (by decide) ?_
              refine s_aload_n B dX9_dayGoes_94 rfl 0 rfl ?_
              refine s_get (T := TX9) B inX9 0 rfl rfl 2 (Nat.le_of_ble_eq_true rfl) fl_X9_13 rfl rfl dX9_dayGoes_95 ?_
              refine s_aload_n B dX9_dayGoes_98 rfl 0 rfl ?_
              refine s_get (T := TX9) B inX9 0 rfl rfl 3 (Nat.le_of_ble_eq_true rfl) fl_X9_222 rfl rfl dX9_dayGoes_99 ?_
              refine s_iconst B dX9_dayGoes_102 ic_1 ?_
              refine s_iaddE B dX9_dayGoes_103 (nI_add p0 1) ?_
              refine s_iload_n B dX9_dayGoes_104 rfl 3 rfl ?_
              refine s_iaddE B dX9_dayGoes_105 (nI_add (p0 + 1) k_9) ?_
              refine s_dup2_11 B dX9_dayGoes_106 rfl rfl ?_
              refine s_ialdN B 2 0 rfl rfl dX9_dayGoes_107 (by omega) (by decide) ?_
              refine s_aload_n B dX9_dayGoes_108 rfl 0 rfl ?_
              refine s_get (T := TX9) B inX9 0 rfl rfl 2 (Nat.le_of_ble_eq_true rfl) fl_X9_13 rfl rfl dX9_dayGoes_109 ?_
              refine s_aload_n B dX9_dayGoes_112 rfl 0 rfl ?_
              refine s_get (T := TX9) B inX9 0 rfl rfl 3 (Nat.le_of_ble_eq_true rfl) fl_X9_222 rfl rfl dX9_dayGoes_113 ?_
              refine s_iconst B dX9_dayGoes_116 ic_1 ?_
              refine s_iaddE B dX9_dayGoes_117 (nI_add p0 1) ?_
              refine s_iload_n B dX9_dayGoes_118 rfl 3 rfl ?_
              refine s_iaddE B dX9_dayGoes_119 (nI_add (p0 + 1) k_9) ?_
              refine s_ialdN B 2 0 rfl rfl dX9_dayGoes_120 (by omega) (by decide) ?_
              refine s_if_le (tgt := 128) B dX9_dayGoes_121 rfl (fun h121 => ?_) (fun h121 => ?_)
              · refine s_iconst B dX9_dayGoes_128 ic_0 ?_
                refine s_isub B dX9_dayGoes_129 ?_
                refine s_iastN (ws' := [_, _, _, _, _]) B 2 0 rfl rfl rfl dX9_dayGoes_130 (by omega) (by decide) ?_
                refine s_aload_n B dX9_dayGoes_131 rfl 0 rfl ?_
                refine s_get (T := TX9) B inX9 0 rfl rfl 2 (Nat.le_of_ble_eq_true rfl) fl_X9_13 rfl rfl dX9_dayGoes_132 ?_
                refine s_aload_n B dX9_dayGoes_135 rfl 0 rfl ?_
                refine s_get (T := TX9) B inX9 0 rfl rfl 3 (Nat.le_of_ble_eq_true rfl) fl_X9_222 rfl rfl dX9_dayGoes_136 ?_
                refine s_bipush B dX9_dayGoes_139 bp_9 ?_
                refine s_iaddE B dX9_dayGoes_141 (nI_add p0 9) ?_
                refine s_iload_n B dX9_dayGoes_142 rfl 3 rfl ?_
                refine s_iaddE B dX9_dayGoes_143 (nI_add (p0 + 9) k_9) ?_
                refine s_dup2_11 B dX9_dayGoes_144 rfl rfl ?_
                refine s_ialdN B 2 0 rfl rfl dX9_dayGoes_145 (by omega) (by decide) ?_
                refine s_aload_n B dX9_dayGoes_146 rfl 0 rfl ?_
                refine s_get (T := TX9) B inX9 0 rfl rfl 2 (Nat.le_of_ble_eq_true rfl) fl_X9_13 rfl rfl dX9_dayGoes_147 ?_
                refine s_aload_n B dX9_dayGoes_150 rfl 0 rfl ?_
                refine s_get (T := TX9) B inX9 0 rfl rfl 3 (Nat.le_of_ble_eq_true rfl) fl_X9_222 rfl rfl dX9_dayGoes_151 ?_
                refine s_bipush B dX9_dayGoes_154 bp_9 ?_
                refine s_iaddE B dX9_dayGoes_156 (nI_add p0 9) ?_
                refine s_iload_n B dX9_dayGoes_157 rfl 3 rfl ?_
                refine s_iaddE B dX9_dayGoes_158 (nI_add (p0 + 9) k_9) ?_
                refine s_ialdN B 2 0 rfl rfl dX9_dayGoes_159 (by omega) (by decide) ?_
                refine s_if_le (tgt := 167) B dX9_dayGoes_160 rfl (fun h160 => ?_) (fun h160 => ?_)
                · refine s_iconst B dX9_dayGoes_167 ic_0 ?_
                  refine s_isub B dX9_dayGoes_168 ?_
                  refine s_iastN (ws' := [_, _, _, _, _]) B 2 0 rfl rfl rfl dX9_dayGoes_169 (by omega) (by decide) ?_
                  refine s_iinc (lv' := [(3, _), (0, _), (1, _), (2, _)]) (k := 3) B dX9_dayGoes_170 rfl (ii_n _) (Nat.le_of_ble_eq_true rfl) rfl ?_
                  refine s_goto (tgt := 43) B dX9_dayGoes_173 rfl ?_
                  refine s_lv (lv' := [(0, _), (1, _), (2, _), (3, _)]) [1, 2, 3, 0] rfl ?_
                  exact ih43 (k_9 + 1) (upd (upd (upd a_row_11 ((p0 + 17) + k_9) 0) ((p0 + 1) + k_9) (((upd a_row_11 ((p0 + 17) + k_9) 0) ((p0 + 1) + k_9)) - 0)) ((p0 + 9) + k_9) (((upd (upd a_row_11 ((p0 + 17) + k_9) 0) ((p0 + 1) + k_9) (((upd a_row_11 ((p0 + 17) + k_9) 0) ((p0 + 1) + k_9)) - 0)) ((p0 + 9) + k_9)) - 0)) (by omega) hpre0 h_5 hT_6 h14 (by omega) (RowOk.set (RowOk.set (RowOk.put ok_a_row_11 ⟨0, by omega, rfl⟩) (by omega) (by omega)) (by omega) (by omega)) ((upd_ne _ _ (by omega)).trans ((upd_ne _ _ (by omega)).trans ((upd_ne _ _ (by omega)).trans heq_12))) (fun hz => ((upd_ne _ _ (by omega)).trans ((upd_ne _ _ (by omega)).trans ((upd_ne _ _ (by omega)).trans ((hz_13 hz).trans rfl))))) (fun hz j hj => ((upd_ne _ _ (by omega)).trans ((upd_ne _ _ (by omega)).trans ((upd_ne _ _ (by omega)).trans ((hy_14 hz j hj).trans rfl))))) (DayB_s hB_15 (by omega) (aw_0 h70) (dec_0 (upd_ne _ _ (by omega)) h121) (dec_0 ((upd_ne _ _ (by omega)).trans (upd_ne _ _ (by omega))) h160))
                · refine s_iconst B dX9_dayGoes_163 ic_1 ?_
                  refine s_goto (tgt := 168) B dX9_dayGoes_164 rfl ?_
                  refine s_isub B dX9_dayGoes_168 ?_
                  refine s_iastN (ws' := [_, _, _, _, _]) B 2 0 rfl rfl rfl dX9_dayGoes_169 (by omega) (by decide) ?_
                  refine s_iinc (lv' := [(3, _), (0, _), (1, _), (2, _)]) (k := 3) B dX9_dayGoes_170 rfl (ii_n _) (Nat.le_of_ble_eq_true rfl) rfl ?_
                  refine s_goto (tgt := 43) B dX9_dayGoes_173 rfl ?_
                  refine s_lv (lv' := [(0, _), (1, _), (2, _), (3, _)]) [1, 2, 3, 0] rfl ?_
                  exact ih43 (k_9 + 1) (upd (upd (upd a_row_11 ((p0 + 17) + k_9) 0) ((p0 + 1) + k_9) (((upd a_row_11 ((p0 + 17) + k_9) 0) ((p0 + 1) + k_9)) - 0)) ((p0 + 9) + k_9) (((upd (upd a_row_11 ((p0 + 17) + k_9) 0) ((p0 + 1) + k_9) (((upd a_row_11 ((p0 + 17) + k_9) 0) ((p0 + 1) + k_9)) - 0)) ((p0 + 9) + k_9)) - 1)) (by omega) hpre0 h_5 hT_6 h14 (by omega) (RowOk.set (RowOk.set (RowOk.put ok_a_row_11 ⟨0, by omega, rfl⟩) (by omega) (by omega)) (by omega) (by omega)) ((upd_ne _ _ (by omega)).trans ((upd_ne _ _ (by omega)).trans ((upd_ne _ _ (by omega)).trans heq_12))) (fun hz => ((upd_ne _ _ (by omega)).trans ((upd_ne _ _ (by omega)).trans ((upd_ne _ _ (by omega)).trans ((hz_13 hz).trans rfl))))) (fun hz j hj => ((upd_ne _ _ (by omega)).trans ((upd_ne _ _ (by omega)).trans ((upd_ne _ _ (by omega)).trans ((hy_14 hz j hj).trans rfl))))) (DayB_s hB_15 (by omega) (aw_0 h70) (dec_0 (upd_ne _ _ (by omega)) h121) (dec_1 ((upd_ne _ _ (by omega)).trans (upd_ne _ _ (by omega))) h160))
              · refine s_iconst B dX9_dayGoes_124 ic_1 ?_
                refine s_goto (tgt := 129) B dX9_dayGoes_125 rfl ?_
                refine s_isub B dX9_dayGoes_129 ?_
                refine s_iastN (ws' := [_, _, _, _, _]) B 2 0 rfl rfl rfl dX9_dayGoes_130 (by omega) (by decide) ?_
                refine s_aload_n B dX9_dayGoes_131 rfl 0 rfl ?_
                refine s_get (T := TX9) B inX9 0 rfl rfl 2 (Nat.le_of_ble_eq_true rfl) fl_X9_13 rfl rfl dX9_dayGoes_132 ?_
                refine s_aload_n B dX9_dayGoes_135 rfl 0 rfl ?_
                refine s_get (T := TX9) B inX9 0 rfl rfl 3 (Nat.le_of_ble_eq_true rfl) fl_X9_222 rfl rfl dX9_dayGoes_136 ?_
                refine s_bipush B dX9_dayGoes_139 bp_9 ?_
                refine s_iaddE B dX9_dayGoes_141 (nI_add p0 9) ?_
                refine s_iload_n B dX9_dayGoes_142 rfl 3 rfl ?_
                refine s_iaddE B dX9_dayGoes_143 (nI_add (p0 + 9) k_9) ?_
                refine s_dup2_11 B dX9_dayGoes_144 rfl rfl ?_
                refine s_ialdN B 2 0 rfl rfl dX9_dayGoes_145 (by omega) (by decide) ?_
                refine s_aload_n B dX9_dayGoes_146 rfl 0 rfl ?_
                refine s_get (T := TX9) B inX9 0 rfl rfl 2 (Nat.le_of_ble_eq_true rfl) fl_X9_13 rfl rfl dX9_dayGoes_147 ?_
                refine s_aload_n B dX9_dayGoes_150 rfl 0 rfl ?_
                refine s_get (T := TX9) B inX9 0 rfl rfl 3 (Nat.le_of_ble_eq_true rfl) fl_X9_222 rfl rfl dX9_dayGoes_151 ?_
                refine s_bipush B dX9_dayGoes_154 bp_9 ?_
                refine s_iaddE B dX9_dayGoes_156 (nI_add p0 9) ?_
                refine s_iload_n B dX9_dayGoes_157 rfl 3 rfl ?_
                refine s_iaddE B dX9_dayGoes_158 (nI_add (p0 + 9) k_9) ?_
                refine s_ialdN B 2 0 rfl rfl dX9_dayGoes_159 (by omega) (by decide) ?_
                refine s_if_le (tgt := 167) B dX9_dayGoes_160 rfl (fun h160 => ?_) (fun h160 => ?_)
                · refine s_iconst B dX9_dayGoes_167 ic_0 ?_
                  refine s_isub B dX9_dayGoes_168 ?_
                  refine s_iastN (ws' := [_, _, _, _, _]) B 2 0 rfl rfl rfl dX9_dayGoes_169 (by omega) (by decide) ?_
                  refine s_iinc (lv' := [(3, _), (0, _), (1, _), (2, _)]) (k := 3) B dX9_dayGoes_170 rfl (ii_n _) (Nat.le_of_ble_eq_true rfl) rfl ?_
                  refine s_goto (tgt := 43) B dX9_dayGoes_173 rfl ?_
                  refine s_lv (lv' := [(0, _), (1, _), (2, _), (3, _)]) [1, 2, 3, 0] rfl ?_
                  exact ih43 (k_9 + 1) (upd (upd (upd a_row_11 ((p0 + 17) + k_9) 0) ((p0 + 1) + k_9) (((upd a_row_11 ((p0 + 17) + k_9) 0) ((p0 + 1) + k_9)) - 1)) ((p0 + 9) + k_9) (((upd (upd a_row_11 ((p0 + 17) + k_9) 0) ((p0 + 1) + k_9) (((upd a_row_11 ((p0 + 17) + k_9) 0) ((p0 + 1) + k_9)) - 1)) ((p0 + 9) + k_9)) - 0)) (by omega) hpre0 h_5 hT_6 h14 (by omega) (RowOk.set (RowOk.set (RowOk.put ok_a_row_11 ⟨0, by omega, rfl⟩) (by omega) (by omega)) (by omega) (by omega)) ((upd_ne _ _ (by omega)).trans ((upd_ne _ _ (by omega)).trans ((upd_ne _ _ (by omega)).trans heq_12))) (fun hz => ((upd_ne _ _ (by omega)).trans ((upd_ne _ _ (by omega)).trans ((upd_ne _ _ (by omega)).trans ((hz_13 hz).trans rfl))))) (fun hz j hj => ((upd_ne _ _ (by omega)).trans ((upd_ne _ _ (by omega)).trans ((upd_ne _ _ (by omega)).trans ((hy_14 hz j hj).trans rfl))))) (DayB_s hB_15 (by omega) (aw_0 h70) (dec_1 (upd_ne _ _ (by omega)) h121) (dec_0 ((upd_ne _ _ (by omega)).trans (upd_ne _ _ (by omega))) h160))
                · refine s_iconst B dX9_dayGoes_163 ic_1 ?_
                  refine s_goto (tgt := 168) B dX9_dayGoes_164 rfl ?_
                  refine s_isub B dX9_dayGoes_168 ?_
                  refine s_iastN (ws' := [_, _, _, _, _]) B 2 0 rfl rfl rfl dX9_dayGoes_169 (by omega) (by decide) ?_
                  refine s_iinc (lv' := [(3, _), (0, _), (1, _), (2, _)]) (k := 3) B dX9_dayGoes_170 rfl (ii_n _) (Nat.le_of_ble_eq_true rfl) rfl ?_
                  refine s_goto (tgt := 43) B dX9_dayGoes_173 rfl ?_
                  refine s_lv (lv' := [(0, _), (1, _), (2, _), (3, _)]) [1, 2, 3, 0] rfl ?_
                  exact ih43 (k_9 + 1) (upd (upd (upd a_row_11 ((p0 + 17) + k_9) 0) ((p0 + 1) + k_9) (((upd a_row_11 ((p0 + 17) + k_9) 0) ((p0 + 1) + k_9)) - 1)) ((p0 + 9) + k_9) (((upd (upd a_row_11 ((p0 + 17) + k_9) 0) ((p0 + 1) + k_9) (((upd a_row_11 ((p0 + 17) + k_9) 0) ((p0 + 1) + k_9)) - 1)) ((p0 + 9) + k_9)) - 1)) (by omega) hpre0 h_5 hT_6 h14 (by omega) (RowOk.set (RowOk.set (RowOk.put ok_a_row_11 ⟨0, by omega, rfl⟩) (by omega) (by omega)) (by omega) (by omega)) ((upd_ne _ _ (by omega)).trans ((upd_ne _ _ (by omega)).trans ((upd_ne _ _ (by omega)).trans heq_12))) (fun hz => ((upd_ne _ _ (by omega)).trans ((upd_ne _ _ (by omega)).trans ((upd_ne _ _ (by omega)).trans ((hz_13 hz).trans rfl))))) (fun hz j hj => ((upd_ne _ _ (by omega)).trans ((upd_ne _ _ (by omega)).trans ((upd_ne _ _ (by omega)).trans ((hy_14 hz j hj).trans rfl))))) (DayB_s hB_15 (by omega) (aw_0 h70) (dec_1 (upd_ne _ _ (by omega)) h121) (dec_1 ((upd_ne _ _ (by omega)).trans (upd_ne _ _ (by omega))) h160))
      refine s_iload_n B dX9_dayGoes_9 rfl 3 rfl ?_
      refine s_aload_n B dX9_dayGoes_10 rfl 0 rfl ?_
      refine s_get (T := TX9) B inX9 0 rfl rfl 0 (Nat.le_of_ble_eq_true rfl) fl_X9_91 rfl rfl dX9_dayGoes_11 ?_
      refine s_icmp_ge (tgt := 41) B dX9_dayGoes_14 rfl (fun h14 => ?_) (fun h14 => ?_)
      · replace h14 : n ≤ k_4 := (nI_leI (a := n) (b := k_4) (by omega) (by omega)).mp h14
        refine s_iconst B dX9_dayGoes_41 ic_0 ?_
        refine s_istore_n (lv' := [(3, _), (0, _), (1, _), (2, _)]) B dX9_dayGoes_42 rfl (Nat.le_of_ble_eq_true rfl) rfl ?_
        refine s_lv (lv' := [(0, _), (1, _), (2, _), (3, _)]) [1, 2, 3, 0] rfl ?_
        refine s_lve (lv' := [(0, .ref (b 0)), (1, .int v_3), (2, .int (mSick (xR a_row (p0 + 1)) n)), (3, .int (nI 0))]) (by first | rfl | (simp only [if_pos, if_neg]; done)) ?_
        exact L43 _ 0 a_row (Nat.lt_succ_self _) hpre0 h_5 hT_6 h14 (by omega) ok_a_row rfl (fun hz => rfl) (fun hz j hj => rfl) DayB_0
      · replace h14 : ¬ n ≤ k_4 := fun hh => h14 ((nI_leI (a := n) (b := k_4) (by omega) (by omega)).mpr hh)
        refine s_iload_n B dX9_dayGoes_17 rfl 1 rfl ?_
        refine s_aload_n B dX9_dayGoes_18 rfl 0 rfl ?_
        refine s_iload_n B dX9_dayGoes_19 rfl 3 rfl ?_
        refine s_callVi B hsc (c_X9_wouldBe l D g b (upd (upd (upd (upd I 12 (nI t)) 27 (nI q)) 28 (nI mm)) 39 (nI bd)) W n p0 a_child a_row a_events a_laws k_4 dz (by omega) (by omega) hdz hrz0) (gw_V ml_X9_229 im_yX9_wouldBe se_yX9_wouldBe ini_RX9 co_yX9_wouldBe) hd_X9_wouldBe rfl rfl ⟨(Nat.le_of_ble_eq_true rfl), (Nat.le_of_ble_eq_true rfl)⟩ [0, 1, 2, 3, 4] [0, 1, 2, 3, 4] rfl rfl rfl (ci := 9) (q0 := 0) rfl rfl rfl rfl rfl (Nat.le_of_ble_eq_true rfl) dX9_dayGoes_20 (fun r_7 u_8 hpo => ?_)
        obtain ⟨rfl, rfl⟩ := hpo
        refine s_st (st' := [.int (if mAway (a_child (4 * k_4 + 0)) (a_child (4 * k_4 + 1)) (a_child (4 * k_4 + 3)) (nI dz) (a_events dz) (decide (0 < a_row (p0 + 1 + k_4))) (decide (0 < a_row (p0 + 9 + k_4))) (a_row (p0 + 17 + k_4)) (a_laws 1) = true then 1 else 0), .int v_3]) rfl ?_
        refine s_ws (ws' := [(b 0, .inr (9, [.int (nI n), .ref (b 1), .ref (b 2), .int (nI p0), .ref (b 3), .ref (b 4), .ref (b 5), .ref (b 6), .ref (b 7), .ref (b 8), .int (I 10), .ref (b 9), .int (nI t), .int (I 13), .int (I 14), .int (I 15), .long W, .int (I 17), .int (I 18), .int (I 19), .int (I 20), .ref (b 10), .ref (b 11), .ref (b 12), .ref (b 13), .ref (b 14), .ref (b 15), .int (nI q), .int (nI mm), .ref (b 16), .ref (b 17), .ref (b 18), .ref (b 19), .ref (b 20), .ref (b 21), .int (I 35), .int (I 36), .int (I 37), .ref (b 22), .int (nI bd), .int (I 40), .int (I 41), .ref (b 23), .int (I 43), .ref (b 24)])), (b 1, .inl (g 0, 32, .inl a_child)), (b 2, .inl (g 0, 50, .inl a_row)), (b 3, .inl (g 0, 40, .inl a_events)), (b 6, .inl (g 0, 4, .inl a_laws))]) rfl ?_
        refine s_bif_eq (tgt := 30) B dX9_dayGoes_23 rfl (fun h23 => ?_) (fun h23 => ?_)
        · refine s_iconst B dX9_dayGoes_30 ic_1 ?_
          refine s_iload_n B dX9_dayGoes_31 rfl 3 rfl ?_
          refine s_ishl B dX9_dayGoes_32 ?_
          refine s_ior B dX9_dayGoes_33 ?_
          refine s_istore_n (lv' := [(1, _), (0, _), (2, _), (3, _)]) B dX9_dayGoes_34 rfl (Nat.le_of_ble_eq_true rfl) rfl ?_
          refine s_iinc (lv' := [(3, _), (1, _), (0, _), (2, _)]) (k := 3) B dX9_dayGoes_35 rfl (ii_n _) (Nat.le_of_ble_eq_true rfl) rfl ?_
          refine s_goto (tgt := 9) B dX9_dayGoes_38 rfl ?_
          refine s_lv (lv' := [(0, _), (1, _), (2, _), (3, _)]) [2, 1, 3, 0] rfl ?_
          exact ih9 (v_3 ||| (1 <<< ((nI k_4) &&& 31))) (k_4 + 1) (by omega) hpre0 (by omega) (bits_1 hT_6 (fTh_t hdz h23))
        · refine s_iconst B dX9_dayGoes_26 ic_0 ?_
          refine s_goto (tgt := 33) B dX9_dayGoes_27 rfl ?_
          refine s_ior B dX9_dayGoes_33 ?_
          refine s_istore_n (lv' := [(1, _), (0, _), (2, _), (3, _)]) B dX9_dayGoes_34 rfl (Nat.le_of_ble_eq_true rfl) rfl ?_
          refine s_iinc (lv' := [(3, _), (1, _), (0, _), (2, _)]) (k := 3) B dX9_dayGoes_35 rfl (ii_n _) (Nat.le_of_ble_eq_true rfl) rfl ?_
          refine s_goto (tgt := 9) B dX9_dayGoes_38 rfl ?_
          refine s_lv (lv' := [(0, _), (1, _), (2, _), (3, _)]) [2, 1, 3, 0] rfl ?_
          exact ih9 (v_3 ||| 0) (k_4 + 1) (by omega) hpre0 (by omega) (bits_0 hT_6 (fTh_f hdz h23))
  refine s_iconst B dX9_dayGoes_0 ic_0 ?_
  refine s_istore_n (lv' := [(1, _), (0, _)]) B dX9_dayGoes_1 rfl (Nat.le_of_ble_eq_true rfl) rfl ?_
  refine s_aload_n B dX9_dayGoes_2 rfl 1 rfl ?_
  refine s_callVi B hsc (c_X9_sickSet l D g b (upd (upd (upd (upd I 12 (nI t)) 27 (nI q)) 28 (nI mm)) 39 (nI bd)) W n p0 a_row (by omega) (by omega)) (gw_V ml_X9_232 im_yX9_sickSet se_yX9_sickSet ini_RX9 co_yX9_sickSet) hd_X9_sickSet rfl rfl ⟨(Nat.le_of_ble_eq_true rfl), (Nat.le_of_ble_eq_true rfl)⟩ [0, 2] [0, 1, 2, 3, 4] rfl rfl rfl (ci := 9) (q0 := 0) rfl rfl rfl rfl rfl (Nat.le_of_ble_eq_true rfl) dX9_dayGoes_3 (fun r_1 u_2 hpo => ?_)
  obtain ⟨rfl, rfl⟩ := hpo
  refine s_st (st' := [.int (mSick (xR a_row (p0 + 1)) n)]) rfl ?_
  refine s_ws (ws' := [(b 0, .inr (9, [.int (nI n), .ref (b 1), .ref (b 2), .int (nI p0), .ref (b 3), .ref (b 4), .ref (b 5), .ref (b 6), .ref (b 7), .ref (b 8), .int (I 10), .ref (b 9), .int (nI t), .int (I 13), .int (I 14), .int (I 15), .long W, .int (I 17), .int (I 18), .int (I 19), .int (I 20), .ref (b 10), .ref (b 11), .ref (b 12), .ref (b 13), .ref (b 14), .ref (b 15), .int (nI q), .int (nI mm), .ref (b 16), .ref (b 17), .ref (b 18), .ref (b 19), .ref (b 20), .ref (b 21), .int (I 35), .int (I 36), .int (I 37), .ref (b 22), .int (nI bd), .int (I 40), .int (I 41), .ref (b 23), .int (I 43), .ref (b 24)])), (b 1, .inl (g 0, 32, .inl a_child)), (b 2, .inl (g 0, 50, .inl a_row)), (b 3, .inl (g 0, 40, .inl a_events)), (b 6, .inl (g 0, 4, .inl a_laws))]) rfl ?_
  refine s_istore_n (lv' := [(2, _), (1, _), (0, _)]) B dX9_dayGoes_6 rfl (Nat.le_of_ble_eq_true rfl) rfl ?_
  refine s_iconst B dX9_dayGoes_7 ic_0 ?_
  refine s_istore_n (lv' := [(3, _), (2, _), (1, _), (0, _)]) B dX9_dayGoes_8 rfl (Nat.le_of_ble_eq_true rfl) rfl ?_
  refine s_lv (lv' := [(0, _), (1, _), (2, _), (3, _)]) [3, 2, 1, 0] rfl ?_
  refine s_lve (lv' := [(0, .ref (b 0)), (1, .int 0), (2, .int (mSick (xR a_row (p0 + 1)) n)), (3, .int (nI 0))]) (by first | rfl | (simp only [if_pos, if_neg]; done)) ?_
  exact L9 _ 0 0 (Nat.lt_succ_self _) hpre0 (by omega) rfl
