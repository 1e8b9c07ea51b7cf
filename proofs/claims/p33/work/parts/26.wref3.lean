theorem nat_sub {x : Int32} {a b : Nat} (h0 : ¬ x < 0) (h1 : x ≤ nI a - nI b) (ha : a ≤ 1000) (hb : b ≤ 1000) : ∃ k, k + b ≤ a ∧ x = nI k := by
  have hs : (nI a - nI b).toInt = (a : Int) - b := by
    rw [Int32.toInt_sub, nI_toInt (by omega), nI_toInt (by omega)]
    apply Int.bmod_eq_of_le <;> omega
  rw [Int32.lt_iff_toInt_lt] at h0
  rw [Int32.le_iff_toInt_le, hs] at h1
  have h2 : (0 : Int32).toInt = 0 := by decide
  rw [h2] at h0
  refine ⟨x.toInt.toNat, by omega, ?_⟩
  apply Int32.toInt_inj.mp
  rw [nI_toInt (by omega)]; omega
theorem kon_lt {k : Nat} (hk : k ≤ 5) {P : Prop} (h : nI k = 9 ∨ nI k = -1 ∨ P) : P := by
  have h1 : ∀ k, k ≤ 5 → ¬ nI k = 9 ∧ ¬ nI k = -1 := by decide
  rcases h with h | h | h
  · exact absurd h (h1 k hk).1
  · exact absurd h (h1 k hk).2
  · exact h
theorem ev_add {a b : Nat} (ha : a ≤ 39) (hb : b ≤ 40) : ((40 : Int32) < nI a + nI b) = (40 < a + b) := by
  rw [nI_add]; apply propext
  rw [Int32.lt_iff_toInt_lt, nI_toInt (by omega), show (40 : Int32).toInt = 40 from by decide]; omega
theorem sub_nz {x y : Int32} (h : ¬ x = y) : ¬ x - y = 0 := fun e => h (by
  have h1 : x - y + y = 0 + y := by rw [e]
  rw [Int32.sub_add_cancel, Int32.zero_add] at h1; exact h1)
def rmX9_round : Room := { frames := 6, cells := 0, slots := 0, locals := 142 }
theorem hd_X9_round : yX9_round.cls = RX9 ∧ yX9_round.cls ≠ "java/lang/invoke/MethodHandle" ∧ yX9_round.cls ≠ "java/lang/invoke/VarHandle" ∧ (parseMethodDescriptor yX9_round.desc).map (fun d => d.parameters.length) = some 3 := by decide +kernel
set_option maxHeartbeats 4000000 in
set_option maxRecDepth 100000 in
theorem c_X9_round (l : Launch) (D : va_G) (g : Nat → ClassId) (b : Nat → Nat) (I : Nat → Int32) (W : Int64) (n p0 t q mm bd : Nat) (a_child : Nat → Int32) (a_row : Nat → Int32) (a_events : Nat → Int32) (a_laws : Nat → Int32) (k0 : Int32) (n0 : Int32) (w0 : Int32) (hn : n ≤ 8) (hp : p0 = 0 ∨ p0 = 25) (ht : t ≤ 240) (hq0 : q ≤ 20) (hmm : mm ≤ 20) (hbd : bd ≤ 30) (ok_a_row : RowOk a_row) : Ci l yX9_round (WW yX9_round cX9_round 9 (some FieldType.int)) rmX9_round D vwCl (TY g) [.ref (b 0), .int k0, .int n0, .int w0] [(b 0, .inr (9, [.int (nI n), .ref (b 1), .ref (b 2), .int (nI 0), .ref (b 3), .ref (b 4), .ref (b 5), .ref (b 6), .ref (b 7), .ref (b 8), .int (I 10), .ref (b 9), .int (nI t), .int (I 13), .int (I 14), .int (I 15), .long W, .int (I 17), .int (I 18), .int (I 19), .int (I 20), .ref (b 10), .ref (b 11), .ref (b 12), .ref (b 13), .ref (b 14), .ref (b 15), .int (nI q), .int (nI mm), .ref (b 16), .ref (b 17), .ref (b 18), .ref (b 19), .ref (b 20), .ref (b 21), .int (I 35), .int (I 36), .int (I 37), .ref (b 22), .int (nI bd), .int (I 40), .int (I 41), .ref (b 23), .int (I 43), .ref (b 24)])), (b 1, .inl (g 0, 32, .inl a_child)), (b 2, .inl (g 0, 50, .inl a_row)), (b 3, .inl (g 0, 40, .inl a_events)), (b 6, .inl (g 0, 4, .inl a_laws))] (fun r u => ∃ (a_row' : Nat → Int32), (RowOk a_row') ∧ (a_row' 0 = a_row 0) ∧ (∀ j : Nat, j < 25 → a_row' j = a_row j) ∧ (∀ (G : MG) (cr9 tr9 : MA), RG G n a_child a_row a_events cr9 tr9 a_laws (I 10) → r = aRound k0 n0 w0 G) ∧ u = [(b 0, .inr (9, [.int (nI n), .ref (b 1), .ref (b 2), .int (nI 0), .ref (b 3), .ref (b 4), .ref (b 5), .ref (b 6), .ref (b 7), .ref (b 8), .int (I 10), .ref (b 9), .int (nI t), .int (I 13), .int (I 14), .int (I 15), .long W, .int (I 17), .int (I 18), .int (I 19), .int (I 20), .ref (b 10), .ref (b 11), .ref (b 12), .ref (b 13), .ref (b 14), .ref (b 15), .int (nI q), .int (nI mm), .ref (b 16), .ref (b 17), .ref (b 18), .ref (b 19), .ref (b 20), .ref (b 21), .int (I 35), .int (I 36), .int (I 37), .ref (b 22), .int (nI bd), .int (I 40), .int (I 41), .ref (b 23), .int (I 43), .ref (b 24)])), (b 1, .inl (g 0, 32, .inl a_child)), (b 2, .inl (g 0, 50, .inl a_row')), (b 3, .inl (g 0, 40, .inl a_events)), (b 6, .inl (g 0, 4, .inl a_laws))]) := by
  refine ci_in (by decide) (Nat.le_of_ble_eq_true rfl) (a0 := [b 0, b 1, b 2, b 3, b 6]) rfl (fun p e s m args below meth c A Q hQ B hr hsc => ?_)
  refine s_iload_n B dX9_round_0 rfl 1 rfl ?_
  refine s_iconst B dX9_round_1 ic_1 ?_
  refine s_iconst B dX9_round_2 ic_3 ?_
  refine s_callSi B hsc (c_X9_in l D g k0 1 3) (gw_S ml_X9_87 sm_yX9_in ini_RX9 co_yX9_in) hd_X9_in rfl rfl ⟨(Nat.le_of_ble_eq_true rfl), (Nat.le_of_ble_eq_true rfl)⟩ [] [0, 1, 2, 3, 4] rfl rfl rfl rfl rfl (Nat.le_of_ble_eq_true rfl) dX9_round_3 (fun r_1 u_2 hpo => ?_)
  obtain ⟨rfl, rfl⟩ := hpo
  refine s_st (st' := [.int (if ¬ k0 < 1 ∧ ¬ 3 < k0 then 1 else 0)]) rfl ?_
  refine s_ws (ws' := [(b 0, .inr (9, [.int (nI n), .ref (b 1), .ref (b 2), .int (nI 0), .ref (b 3), .ref (b 4), .ref (b 5), .ref (b 6), .ref (b 7), .ref (b 8), .int (I 10), .ref (b 9), .int (nI t), .int (I 13), .int (I 14), .int (I 15), .long W, .int (I 17), .int (I 18), .int (I 19), .int (I 20), .ref (b 10), .ref (b 11), .ref (b 12), .ref (b 13), .ref (b 14), .ref (b 15), .int (nI q), .int (nI mm), .ref (b 16), .ref (b 17), .ref (b 18), .ref (b 19), .ref (b 20), .ref (b 21), .int (I 35), .int (I 36), .int (I 37), .ref (b 22), .int (nI bd), .int (I 40), .int (I 41), .ref (b 23), .int (I 43), .ref (b 24)])), (b 1, .inl (g 0, 32, .inl a_child)), (b 2, .inl (g 0, 50, .inl a_row)), (b 3, .inl (g 0, 40, .inl a_events)), (b 6, .inl (g 0, 4, .inl a_laws))]) rfl ?_
  refine s_bif_eq (tgt := 28) B dX9_round_6 rfl (fun h6 => ?_) (fun h6 => ?_)
  · refine s_iconst B dX9_round_28 ic_m1 ?_
    refine s_iret B hQ hr dX9_round_29 rfl ?_
    exact ⟨a_row, ok_a_row, rfl, (fun j hj => rfl), (fun G cr9 tr9 H => (H.round_no (by first | exact Or.inl (by assumption) | exact Or.inr (Or.inl (by assumption)) | exact Or.inr (Or.inr (by assumption))))), rfl⟩
  · obtain ⟨k_3, hk_4, rfl⟩ := nat_le1 (N := 3) h6.1 h6.2 (by decide)
    refine s_iload_n B dX9_round_9 rfl 2 rfl ?_
    refine s_iconst B dX9_round_10 ic_0 ?_
    refine s_bipush B dX9_round_11 bp_20 ?_
    refine s_callSi B hsc (c_X9_in l D g n0 0 20) (gw_S ml_X9_87 sm_yX9_in ini_RX9 co_yX9_in) hd_X9_in rfl rfl ⟨(Nat.le_of_ble_eq_true rfl), (Nat.le_of_ble_eq_true rfl)⟩ [] [0, 1, 2, 3, 4] rfl rfl rfl rfl rfl (Nat.le_of_ble_eq_true rfl) dX9_round_13 (fun r_5 u_6 hpo => ?_)
    obtain ⟨rfl, rfl⟩ := hpo
    refine s_st (st' := [.int (if ¬ n0 < 0 ∧ ¬ 20 < n0 then 1 else 0)]) rfl ?_
    refine s_ws (ws' := [(b 0, .inr (9, [.int (nI n), .ref (b 1), .ref (b 2), .int (nI 0), .ref (b 3), .ref (b 4), .ref (b 5), .ref (b 6), .ref (b 7), .ref (b 8), .int (I 10), .ref (b 9), .int (nI t), .int (I 13), .int (I 14), .int (I 15), .long W, .int (I 17), .int (I 18), .int (I 19), .int (I 20), .ref (b 10), .ref (b 11), .ref (b 12), .ref (b 13), .ref (b 14), .ref (b 15), .int (nI q), .int (nI mm), .ref (b 16), .ref (b 17), .ref (b 18), .ref (b 19), .ref (b 20), .ref (b 21), .int (I 35), .int (I 36), .int (I 37), .ref (b 22), .int (nI bd), .int (I 40), .int (I 41), .ref (b 23), .int (I 43), .ref (b 24)])), (b 1, .inl (g 0, 32, .inl a_child)), (b 2, .inl (g 0, 50, .inl a_row)), (b 3, .inl (g 0, 40, .inl a_events)), (b 6, .inl (g 0, 4, .inl a_laws))]) rfl ?_
    refine s_bif_eq (tgt := 28) B dX9_round_16 rfl (fun h16 => ?_) (fun h16 => ?_)
    · refine s_iconst B dX9_round_28 ic_m1 ?_
      refine s_iret B hQ hr dX9_round_29 rfl ?_
      exact ⟨a_row, ok_a_row, rfl, (fun j hj => rfl), (fun G cr9 tr9 H => (H.round_no (by first | exact Or.inl (by assumption) | exact Or.inr (Or.inl (by assumption)) | exact Or.inr (Or.inr (by assumption))))), rfl⟩
    · obtain ⟨k_7, hk_8, rfl⟩ := nat_le (N := 20) h16.1 h16.2 (by decide)
      refine s_iload_n B dX9_round_19 rfl 3 rfl ?_
      refine s_iconst B dX9_round_20 ic_0 ?_
      refine s_iconst B dX9_round_21 ic_1 ?_
      refine s_callSi B hsc (c_X9_in l D g w0 0 1) (gw_S ml_X9_87 sm_yX9_in ini_RX9 co_yX9_in) hd_X9_in rfl rfl ⟨(Nat.le_of_ble_eq_true rfl), (Nat.le_of_ble_eq_true rfl)⟩ [] [0, 1, 2, 3, 4] rfl rfl rfl rfl rfl (Nat.le_of_ble_eq_true rfl) dX9_round_22 (fun r_9 u_10 hpo => ?_)
      obtain ⟨rfl, rfl⟩ := hpo
      refine s_st (st' := [.int (if ¬ w0 < 0 ∧ ¬ 1 < w0 then 1 else 0)]) rfl ?_
      refine s_ws (ws' := [(b 0, .inr (9, [.int (nI n), .ref (b 1), .ref (b 2), .int (nI 0), .ref (b 3), .ref (b 4), .ref (b 5), .ref (b 6), .ref (b 7), .ref (b 8), .int (I 10), .ref (b 9), .int (nI t), .int (I 13), .int (I 14), .int (I 15), .long W, .int (I 17), .int (I 18), .int (I 19), .int (I 20), .ref (b 10), .ref (b 11), .ref (b 12), .ref (b 13), .ref (b 14), .ref (b 15), .int (nI q), .int (nI mm), .ref (b 16), .ref (b 17), .ref (b 18), .ref (b 19), .ref (b 20), .ref (b 21), .int (I 35), .int (I 36), .int (I 37), .ref (b 22), .int (nI bd), .int (I 40), .int (I 41), .ref (b 23), .int (I 43), .ref (b 24)])), (b 1, .inl (g 0, 32, .inl a_child)), (b 2, .inl (g 0, 50, .inl a_row)), (b 3, .inl (g 0, 40, .inl a_events)), (b 6, .inl (g 0, 4, .inl a_laws))]) rfl ?_
      refine s_bif_ne (tgt := 30) B dX9_round_25 rfl (fun h25 => ?_) (fun h25 => ?_)
      · obtain ⟨k_11, hk_12, rfl⟩ := nat_le (N := 1) h25.1 h25.2 (by decide)
        have L39 : ∀ (jj39 : Nat) (v_13 : Int32) (v_14 : Int32) (k_15 : Nat) (a_row_17 : Nat → Int32), 64 - k_15 < jj39 → (¬ (nI k_3) < 1 ∧ ¬ 3 < (nI k_3)) → (1 ≤ k_3 ∧ k_3 ≤ 3) → (¬ (nI k_7) < 0 ∧ ¬ 20 < (nI k_7)) → (k_7 ≤ 20) → (¬ (nI k_11) < 0 ∧ ¬ 1 < (nI k_11)) → (k_11 ≤ 1) → (k_15 ≤ 64) → (RowOk a_row_17) → (a_row_17 0 = a_row 0) → (∀ j : Nat, j < 25 → a_row_17 j = a_row j) → (∀ (G : MG) (cr9 tr9 : MA), RG G n a_child a_row a_events cr9 tr9 a_laws (I 10) → RdR (fun j => gComes G (nI j) k_7) (nI k_3) k_15 v_13 v_14) → Sx p l e rmX9_round s m args below meth c D vwCl A 9 Q 39 [(0, .ref (b 0)), (1, .int (nI k_3)), (2, .int (nI k_7)), (3, .int (nI k_11)), (4, .int v_13), (5, .int v_14), (6, .int (nI k_15))] [] [(b 0, .inr (9, [.int (nI n), .ref (b 1), .ref (b 2), .int (nI 0), .ref (b 3), .ref (b 4), .ref (b 5), .ref (b 6), .ref (b 7), .ref (b 8), .int (I 10), .ref (b 9), .int (nI t), .int (I 13), .int (I 14), .int (I 15), .long W, .int (I 17), .int (I 18), .int (I 19), .int (I 20), .ref (b 10), .ref (b 11), .ref (b 12), .ref (b 13), .ref (b 14), .ref (b 15), .int (nI q), .int (nI mm), .ref (b 16), .ref (b 17), .ref (b 18), .ref (b 19), .ref (b 20), .ref (b 21), .int (I 35), .int (I 36), .int (I 37), .ref (b 22), .int (nI bd), .int (I 40), .int (I 41), .ref (b 23), .int (I 43), .ref (b 24)])), (b 1, .inl (g 0, 32, .inl a_child)), (b 2, .inl (g 0, 50, .inl a_row_17)), (b 3, .inl (g 0, 40, .inl a_events)), (b 6, .inl (g 0, 4, .inl a_laws))] := by
          intro jj39
          induction jj39 with
          | zero => intro v_13 v_14 k_15 a_row_17 hj; exact absurd hj (Nat.not_lt_zero _)
          | succ jj39 ih39 =>
            intro v_13 v_14 k_15 a_row_17 hj39 h6 hk_4 h16 hk_8 h25 hk_12 h_16 ok_a_row_17 hz_18 hy_19 hQ_20
            have M114 : ∀ (v_62 : Int32) (v_63 : Int32) (a_row_64 : Nat → Int32), (¬ (nI k_3) < 1 ∧ ¬ 3 < (nI k_3)) → (1 ≤ k_3 ∧ k_3 ≤ 3) → (¬ (nI k_7) < 0 ∧ ¬ 20 < (nI k_7)) → (k_7 ≤ 20) → (¬ (nI k_11) < 0 ∧ ¬ 1 < (nI k_11)) → (k_11 ≤ 1) → (k_15 ≤ 64) → (RowOk a_row_17) → (a_row_17 0 = a_row 0) → (∀ j : Nat, j < 25 → a_row_17 j = a_row j) → (∀ (G : MG) (cr9 tr9 : MA), RG G n a_child a_row a_events cr9 tr9 a_laws (I 10) → RdR (fun j => gComes G (nI j) k_7) (nI k_3) k_15 v_13 v_14) → (¬ 64 ≤ k_15) → (RowOk a_row_64) → (a_row_64 0 = a_row 0) → (∀ j : Nat, j < 25 → a_row_64 j = a_row j) → (∀ (G : MG) (cr9 tr9 : MA), RG G n a_child a_row a_events cr9 tr9 a_laws (I 10) → RdR (fun j => gComes G (nI j) k_7) (nI k_3) (k_15 + 1) v_62 v_63) → Sx p l e rmX9_round s m args below meth c D vwCl A 9 Q 114 [(0, .ref (b 0)), (1, .int (nI k_3)), (2, .int (nI k_7)), (3, .int (nI k_11)), (4, .int v_62), (5, .int v_63), (6, .int (nI k_15))] [] [(b 0, .inr (9, [.int (nI n), .ref (b 1), .ref (b 2), .int (nI 0), .ref (b 3), .ref (b 4), .ref (b 5), .ref (b 6), .ref (b 7), .ref (b 8), .int (I 10), .ref (b 9), .int (nI t), .int (I 13), .int (I 14), .int (I 15), .long W, .int (I 17), .int (I 18), .int (I 19), .int (I 20), .ref (b 10), .ref (b 11), .ref (b 12), .ref (b 13), .ref (b 14), .ref (b 15), .int (nI q), .int (nI mm), .ref (b 16), .ref (b 17), .ref (b 18), .ref (b 19), .ref (b 20), .ref (b 21), .int (I 35), .int (I 36), .int (I 37), .ref (b 22), .int (nI bd), .int (I 40), .int (I 41), .ref (b 23), .int (I 43), .ref (b 24)])), (b 1, .inl (g 0, 32, .inl a_child)), (b 2, .inl (g 0, 50, .inl a_row_64)), (b 3, .inl (g 0, 40, .inl a_events)), (b 6, .inl (g 0, 4, .inl a_laws))] := by
              intro v_62 v_63 a_row_64 h6 hk_4 h16 hk_8 h25 hk_12 h_16 ok_a_row_17 hz_18 hy_19 hQ_20 h43 ok_a_row_64 hz_65 hy_66 hQ_67
              refine s_iinc (lv' := [(6, _), (0, _), (1, _), (2, _), (3, _), (4, _), (5, _)]) (k := 6) B dX9_round_114 rfl (ii_n _) (Nat.le_of_ble_eq_true rfl) rfl ?_
              refine s_goto (tgt := 39) B dX9_round_117 rfl ?_
              refine s_lv (lv' := [(0, _), (1, _), (2, _), (3, _), (4, _), (5, _), (6, _)]) [1, 2, 3, 4, 5, 6, 0] rfl ?_
              exact ih39 v_62 v_63 (k_15 + 1) a_row_64 (by omega) h6 hk_4 h16 hk_8 h25 hk_12 (by omega) ok_a_row_64 (hz_65.trans rfl) (fun j hj => ((hy_66 j hj).trans rfl)) hQ_67
            have M106 : ∀ (v_57 : Int32) (a_row_58 : Nat → Int32), (¬ (nI k_3) < 1 ∧ ¬ 3 < (nI k_3)) → (1 ≤ k_3 ∧ k_3 ≤ 3) → (¬ (nI k_7) < 0 ∧ ¬ 20 < (nI k_7)) → (k_7 ≤ 20) → (¬ (nI k_11) < 0 ∧ ¬ 1 < (nI k_11)) → (k_11 ≤ 1) → (k_15 ≤ 64) → (RowOk a_row_17) → (a_row_17 0 = a_row 0) → (∀ j : Nat, j < 25 → a_row_17 j = a_row j) → (∀ (G : MG) (cr9 tr9 : MA), RG G n a_child a_row a_events cr9 tr9 a_laws (I 10) → RdR (fun j => gComes G (nI j) k_7) (nI k_3) k_15 v_13 v_14) → (¬ 64 ≤ k_15) → (RowOk a_row_58) → (a_row_58 0 = a_row 0) → (∀ j : Nat, j < 25 → a_row_58 j = a_row j) → (∀ (G : MG) (cr9 tr9 : MA), RG G n a_child a_row a_events cr9 tr9 a_laws (I 10) → RdR (fun j => gComes G (nI j) k_7) (nI k_3) (k_15 + 1) (nI k_15) v_57) → Sx p l e rmX9_round s m args below meth c D vwCl A 9 Q 106 [(0, .ref (b 0)), (1, .int (nI k_3)), (2, .int (nI k_7)), (3, .int (nI k_11)), (6, .int (nI k_15)), (8, .int v_57)] [] [(b 0, .inr (9, [.int (nI n), .ref (b 1), .ref (b 2), .int (nI 0), .ref (b 3), .ref (b 4), .ref (b 5), .ref (b 6), .ref (b 7), .ref (b 8), .int (I 10), .ref (b 9), .int (nI t), .int (I 13), .int (I 14), .int (I 15), .long W, .int (I 17), .int (I 18), .int (I 19), .int (I 20), .ref (b 10), .ref (b 11), .ref (b 12), .ref (b 13), .ref (b 14), .ref (b 15), .int (nI q), .int (nI mm), .ref (b 16), .ref (b 17), .ref (b 18), .ref (b 19), .ref (b 20), .ref (b 21), .int (I 35), .int (I 36), .int (I 37), .ref (b 22), .int (nI bd), .int (I 40), .int (I 41), .ref (b 23), .int (I 43), .ref (b 24)])), (b 1, .inl (g 0, 32, .inl a_child)), (b 2, .inl (g 0, 50, .inl a_row_58)), (b 3, .inl (g 0, 40, .inl a_events)), (b 6, .inl (g 0, 4, .inl a_laws))] := by
              intro v_57 a_row_58 h6 hk_4 h16 hk_8 h25 hk_12 h_16 ok_a_row_17 hz_18 hy_19 hQ_20 h43 ok_a_row_58 hz_59 hy_60 hQ_61
              refine s_iload B dX9_round_106 5 rfl ?_
              refine s_istore (lv' := [(5, _), (0, _), (1, _), (2, _), (3, _), (6, _), (8, _)]) B dX9_round_108 (Nat.le_of_ble_eq_true rfl) rfl ?_
              refine s_iload B dX9_round_110 5 rfl ?_
              refine s_istore (lv' := [(4, _), (5, _), (0, _), (1, _), (2, _), (3, _), (6, _), (8, _)]) B dX9_round_112 (Nat.le_of_ble_eq_true rfl) rfl ?_
              refine s_lv (lv' := [(0, _), (1, _), (2, _), (3, _), (4, _), (5, _), (6, _)]) [2, 3, 4, 5, 0, 1, 6] rfl ?_
              exact M114 (nI k_15) v_57 a_row_58 h6 hk_4 h16 hk_8 h25 hk_12 h_16 ok_a_row_17 hz_18 hy_19 hQ_20 h43 ok_a_row_58 (hz_59.trans rfl) (fun j hj => ((hy_60 j hj).trans rfl)) hQ_61
            refine s_iload B dX9_round_39 6 rfl ?_
            refine s_bipush B dX9_round_41 bp_64 ?_
            refine s_icmp_ge (tgt := 120) B dX9_round_43 rfl (fun h43 => ?_) (fun h43 => ?_)
            · replace h43 : 64 ≤ k_15 := (nI_leI (a := 64) (b := k_15) (by omega) (by omega)).mp h43
              refine s_iload_n B dX9_round_120 rfl 3 rfl ?_
              refine s_if_ne (tgt := 129) B dX9_round_121 rfl (fun h121 => ?_) (fun h121 => ?_)
              · replace h121 : ¬ k_11 = 0 := fun hh => h121 ((nI_eq (a := k_11) (b := 0) (by omega) (by omega)).mpr hh)
                refine s_iload B dX9_round_129 5 rfl ?_
                refine s_iret B hQ hr dX9_round_131 rfl ?_
                exact ⟨a_row_17, ok_a_row_17, (hz_18.trans rfl), (fun j hj => ((hy_19 j hj).trans rfl)), (fun G cr9 tr9 H => (H.round_ok h6 (by omega) h25 (show k_15 = 64 by omega) (hQ_20 G cr9 tr9 H) (Or.inr ⟨fun z => h121 ((nI_eq (a := k_11) (b := 0) (by omega) (by omega)).mp z), rfl⟩))), rfl⟩
              · replace h121 : k_11 = 0 := (nI_eq (a := k_11) (b := 0) (by omega) (by omega)).mp h121
                refine s_iload B dX9_round_124 4 rfl ?_
                refine s_goto (tgt := 131) B dX9_round_126 rfl ?_
                refine s_iret B hQ hr dX9_round_131 rfl ?_
                exact ⟨a_row_17, ok_a_row_17, (hz_18.trans rfl), (fun j hj => ((hy_19 j hj).trans rfl)), (fun G cr9 tr9 H => (H.round_ok h6 (by omega) h25 (show k_15 = 64 by omega) (hQ_20 G cr9 tr9 H) (Or.inl ⟨congrArg nI h121, rfl⟩))), rfl⟩
            · replace h43 : ¬ 64 ≤ k_15 := fun hh => h43 ((nI_leI (a := 64) (b := k_15) (by omega) (by omega)).mpr hh)
              refine s_iload B dX9_round_46 6 rfl ?_
              refine s_callSi B hsc (c_X9_ones l D g (nI k_15)) (gw_S ml_X9_244 sm_yX9_ones ini_RX9 co_yX9_ones) hd_X9_ones rfl rfl ⟨(Nat.le_of_ble_eq_true rfl), (Nat.le_of_ble_eq_true rfl)⟩ [] [0, 1, 2, 3, 4] rfl rfl rfl rfl rfl (Nat.le_of_ble_eq_true rfl) dX9_round_48 (fun r_21 u_22 hpo => ?_)
              obtain ⟨⟨c_23, rfl, ho_24, ho_25, ho_26⟩, rfl⟩ := hpo
              refine s_ws (ws' := [(b 0, .inr (9, [.int (nI n), .ref (b 1), .ref (b 2), .int (nI 0), .ref (b 3), .ref (b 4), .ref (b 5), .ref (b 6), .ref (b 7), .ref (b 8), .int (I 10), .ref (b 9), .int (nI t), .int (I 13), .int (I 14), .int (I 15), .long W, .int (I 17), .int (I 18), .int (I 19), .int (I 20), .ref (b 10), .ref (b 11), .ref (b 12), .ref (b 13), .ref (b 14), .ref (b 15), .int (nI q), .int (nI mm), .ref (b 16), .ref (b 17), .ref (b 18), .ref (b 19), .ref (b 20), .ref (b 21), .int (I 35), .int (I 36), .int (I 37), .ref (b 22), .int (nI bd), .int (I 40), .int (I 41), .ref (b 23), .int (I 43), .ref (b 24)])), (b 1, .inl (g 0, 32, .inl a_child)), (b 2, .inl (g 0, 50, .inl a_row_17)), (b 3, .inl (g 0, 40, .inl a_events)), (b 6, .inl (g 0, 4, .inl a_laws))]) rfl ?_
              refine s_iload_n B dX9_round_51 rfl 1 rfl ?_
              refine s_icmp_gt (tgt := 114) B dX9_round_52 rfl (fun h52 => ?_) (fun h52 => ?_)
              · refine s_lv (lv' := [(0, _), (1, _), (2, _), (3, _), (4, _), (5, _), (6, _)]) [0, 1, 2, 3, 4, 5, 6] rfl ?_
                exact M114 v_13 v_14 a_row_17 h6 hk_4 h16 hk_8 h25 hk_12 h_16 ok_a_row_17 hz_18 hy_19 hQ_20 h43 ok_a_row_17 (hz_18.trans rfl) (fun j hj => ((hy_19 j hj).trans rfl)) (fun G cr9 tr9 H => rd_n (x := 0) (hQ_20 G cr9 tr9 H) h6.1 (gComes_nn H.1.1.1 _ (by omega)) (Or.inl (by rw [← ho_26 (n64 (by omega))]; exact h52)))
              · refine s_aload_n B dX9_round_55 rfl 0 rfl ?_
                refine s_callVv B hsc (c_X9_lends l D g b I W n 0 t q mm bd a_row_17 (by omega) (by omega) (by omega) (by omega) (by omega) (by omega) ok_a_row_17) (gw_V ml_X9_247 im_yX9_lends se_yX9_lends ini_RX9 co_yX9_lends) hd_X9_lends rfl rfl ⟨(Nat.le_of_ble_eq_true rfl), (Nat.le_of_ble_eq_true rfl)⟩ [0, 2] [0, 1, 2, 3, 4] rfl rfl rfl (ci := 9) (q0 := 0) rfl rfl rfl rfl rfl (Nat.le_of_ble_eq_true rfl) dX9_round_56 (fun u_28 hpo => ?_)
                obtain ⟨a_row_29, ok_a_row_29, hf_30, hf_31, hf_32, rfl⟩ := hpo
                refine s_ws (ws' := [(b 0, .inr (9, [.int (nI n), .ref (b 1), .ref (b 2), .int (nI 25), .ref (b 3), .ref (b 4), .ref (b 5), .ref (b 6), .ref (b 7), .ref (b 8), .int (I 10), .ref (b 9), .int (nI t), .int (I 13), .int (I 14), .int (I 15), .long W, .int (I 17), .int (I 18), .int (I 19), .int (I 20), .ref (b 10), .ref (b 11), .ref (b 12), .ref (b 13), .ref (b 14), .ref (b 15), .int (nI q), .int (nI mm), .ref (b 16), .ref (b 17), .ref (b 18), .ref (b 19), .ref (b 20), .ref (b 21), .int (I 35), .int (I 36), .int (I 37), .ref (b 22), .int (nI bd), .int (I 40), .int (I 41), .ref (b 23), .int (I 43), .ref (b 24)])), (b 1, .inl (g 0, 32, .inl a_child)), (b 2, .inl (g 0, 50, .inl a_row_29)), (b 3, .inl (g 0, 40, .inl a_events)), (b 6, .inl (g 0, 4, .inl a_laws))]) rfl ?_
                refine s_aload_n B dX9_round_59 rfl 0 rfl ?_
                refine s_iload B dX9_round_60 6 rfl ?_
                refine s_callVi B hsc (c_X9_knocks l D g b I W n 25 t q mm bd a_child a_row_29 a_laws (nI k_15) (by omega) (by omega) (by omega) (by omega) (by omega) (by omega) ok_a_row_29) (gw_V ml_X9_241 im_yX9_knocks se_yX9_knocks ini_RX9 co_yX9_knocks) hd_X9_knocks rfl rfl ⟨(Nat.le_of_ble_eq_true rfl), (Nat.le_of_ble_eq_true rfl)⟩ [0, 1, 2, 4] [0, 1, 2, 3, 4] rfl rfl rfl (ci := 9) (q0 := 0) rfl rfl rfl rfl rfl (Nat.le_of_ble_eq_true rfl) dX9_round_62 (fun r_33 u_34 hpo => ?_)
                obtain ⟨a_row_35, ok_a_row_35, hf_36, hf_37, hf_38, rfl⟩ := hpo
                refine s_ws (ws' := [(b 0, .inr (9, [.int (nI n), .ref (b 1), .ref (b 2), .int (nI 25), .ref (b 3), .ref (b 4), .ref (b 5), .ref (b 6), .ref (b 7), .ref (b 8), .int (I 10), .ref (b 9), .int (nI t), .int (I 13), .int (I 14), .int (I 15), .long W, .int (I 17), .int (I 18), .int (I 19), .int (I 20), .ref (b 10), .ref (b 11), .ref (b 12), .ref (b 13), .ref (b 14), .ref (b 15), .int (nI q), .int (nI mm), .ref (b 16), .ref (b 17), .ref (b 18), .ref (b 19), .ref (b 20), .ref (b 21), .int (I 35), .int (I 36), .int (I 37), .ref (b 22), .int (nI bd), .int (I 40), .int (I 41), .ref (b 23), .int (I 43), .ref (b 24)])), (b 1, .inl (g 0, 32, .inl a_child)), (b 2, .inl (g 0, 50, .inl a_row_35)), (b 3, .inl (g 0, 40, .inl a_events)), (b 6, .inl (g 0, 4, .inl a_laws))]) rfl ?_
                refine s_istore (lv' := [(7, _), (0, _), (1, _), (2, _), (3, _), (4, _), (5, _), (6, _)]) B dX9_round_65 (Nat.le_of_ble_eq_true rfl) rfl ?_
                refine s_aload_n B dX9_round_67 rfl 1 rfl ?_
                refine s_iload_n B dX9_round_68 rfl 3 rfl ?_
                refine s_callVi B hsc (c_X9_comes l D g b I W n 25 t q mm bd a_child a_row_35 a_events a_laws k_7 (by omega) (by omega) (by omega) (by omega) (by omega) (by omega) ok_a_row_35 (by first | assumption | decide | (intro h9; first | assumption | exact absurd h9 (by decide)) | omega | rfl | (refine ⟨_, ?_, by assumption⟩; omega) | (clear hQ B hr hsc; grind))) (gw_V ml_X9_250 im_yX9_comes se_yX9_comes ini_RX9 co_yX9_comes) hd_X9_comes rfl rfl ⟨(Nat.le_of_ble_eq_true rfl), (Nat.le_of_ble_eq_true rfl)⟩ [0, 1, 2, 3, 4] [0, 1, 2, 3, 4] rfl rfl rfl (ci := 9) (q0 := 0) rfl rfl rfl rfl rfl (Nat.le_of_ble_eq_true rfl) dX9_round_69 (fun r_39 u_40 hpo => ?_)
                obtain ⟨a_row_41, ok_a_row_41, hf_42, hf_43, hf_44, rfl⟩ := hpo
                refine s_ws (ws' := [(b 0, .inr (9, [.int (nI n), .ref (b 1), .ref (b 2), .int (nI 25), .ref (b 3), .ref (b 4), .ref (b 5), .ref (b 6), .ref (b 7), .ref (b 8), .int (I 10), .ref (b 9), .int (nI t), .int (I 13), .int (I 14), .int (I 15), .long W, .int (I 17), .int (I 18), .int (I 19), .int (I 20), .ref (b 10), .ref (b 11), .ref (b 12), .ref (b 13), .ref (b 14), .ref (b 15), .int (nI q), .int (nI mm), .ref (b 16), .ref (b 17), .ref (b 18), .ref (b 19), .ref (b 20), .ref (b 21), .int (I 35), .int (I 36), .int (I 37), .ref (b 22), .int (nI bd), .int (I 40), .int (I 41), .ref (b 23), .int (I 43), .ref (b 24)])), (b 1, .inl (g 0, 32, .inl a_child)), (b 2, .inl (g 0, 50, .inl a_row_41)), (b 3, .inl (g 0, 40, .inl a_events)), (b 6, .inl (g 0, 4, .inl a_laws))]) rfl ?_
                refine s_istore (lv' := [(8, _), (7, _), (0, _), (1, _), (2, _), (3, _), (4, _), (5, _), (6, _)]) B dX9_round_72 (Nat.le_of_ble_eq_true rfl) rfl ?_
                refine s_aload_n B dX9_round_74 rfl 2 rfl ?_
                refine s_iconst B dX9_round_75 ic_0 ?_
                refine s_put (T := TX9) (ws' := [_, _, _, _, _]) B inX9 tyX9_ok nmX9 0 rfl rfl 3 (Nat.le_of_ble_eq_true rfl) fl_X9_222 rfl rfl rfl rfl (Nat.le_of_ble_eq_true rfl) rfl dX9_round_76 ?_
                refine s_iload B dX9_round_79 0 rfl ?_
                refine s_iload B dX9_round_81 7 rfl ?_
                refine s_icmp_gt (tgt := 106) B dX9_round_83 rfl (fun h83 => ?_) (fun h83 => ?_)
                · refine s_lv (lv' := [(0, _), (1, _), (2, _), (3, _), (6, _), (8, _)]) [2, 3, 4, 5, 8, 0] rfl ?_
                  refine s_ws (ws' := [(b 0, .inr (9, [.int (nI n), .ref (b 1), .ref (b 2), .int (nI 0), .ref (b 3), .ref (b 4), .ref (b 5), .ref (b 6), .ref (b 7), .ref (b 8), .int (I 10), .ref (b 9), .int (nI t), .int (I 13), .int (I 14), .int (I 15), .long W, .int (I 17), .int (I 18), .int (I 19), .int (I 20), .ref (b 10), .ref (b 11), .ref (b 12), .ref (b 13), .ref (b 14), .ref (b 15), .int (nI q), .int (nI mm), .ref (b 16), .ref (b 17), .ref (b 18), .ref (b 19), .ref (b 20), .ref (b 21), .int (I 35), .int (I 36), .int (I 37), .ref (b 22), .int (nI bd), .int (I 40), .int (I 41), .ref (b 23), .int (I 43), .ref (b 24)])), (b 1, .inl (g 0, 32, .inl a_child)), (b 2, .inl (g 0, 50, .inl a_row_41)), (b 3, .inl (g 0, 40, .inl a_events)), (b 6, .inl (g 0, 4, .inl a_laws))]) (by rfl) ?_
                  exact M106 r_39 a_row_41 h6 hk_4 h16 hk_8 h25 hk_12 h_16 ok_a_row_17 hz_18 hy_19 hQ_20 h43 ok_a_row_41 ((hf_42 rfl).trans (hf_36.trans (hf_30.trans (hz_18.trans rfl)))) (fun j hj => ((hf_43 rfl j hj).trans ((hf_37 rfl j hj).trans ((hf_31 j hj).trans ((hy_19 j hj).trans rfl))))) (fun G cr9 tr9 H => rd_y (hQ_20 G cr9 tr9 H) (H.rd_sum (by omega) hy_19 hf_32 hf_38.1 hf_44) (by rw [← ho_26 (n64 (by omega))]; exact h52) (Or.inl h83))
                · refine s_iload B dX9_round_86 0 rfl ?_
                  refine s_iload B dX9_round_88 7 rfl ?_
                  refine s_icmp_ne (tgt := 114) B dX9_round_90 rfl (fun h90 => ?_) (fun h90 => ?_)
                  · refine s_lv (lv' := [(0, _), (1, _), (2, _), (3, _), (4, _), (5, _), (6, _)]) [2, 3, 4, 5, 6, 7, 8] rfl ?_
                    refine s_ws (ws' := [(b 0, .inr (9, [.int (nI n), .ref (b 1), .ref (b 2), .int (nI 0), .ref (b 3), .ref (b 4), .ref (b 5), .ref (b 6), .ref (b 7), .ref (b 8), .int (I 10), .ref (b 9), .int (nI t), .int (I 13), .int (I 14), .int (I 15), .long W, .int (I 17), .int (I 18), .int (I 19), .int (I 20), .ref (b 10), .ref (b 11), .ref (b 12), .ref (b 13), .ref (b 14), .ref (b 15), .int (nI q), .int (nI mm), .ref (b 16), .ref (b 17), .ref (b 18), .ref (b 19), .ref (b 20), .ref (b 21), .int (I 35), .int (I 36), .int (I 37), .ref (b 22), .int (nI bd), .int (I 40), .int (I 41), .ref (b 23), .int (I 43), .ref (b 24)])), (b 1, .inl (g 0, 32, .inl a_child)), (b 2, .inl (g 0, 50, .inl a_row_41)), (b 3, .inl (g 0, 40, .inl a_events)), (b 6, .inl (g 0, 4, .inl a_laws))]) (by rfl) ?_
                    exact M114 v_13 v_14 a_row_41 h6 hk_4 h16 hk_8 h25 hk_12 h_16 ok_a_row_17 hz_18 hy_19 hQ_20 h43 ok_a_row_41 ((hf_42 rfl).trans (hf_36.trans (hf_30.trans (hz_18.trans rfl)))) (fun j hj => ((hf_43 rfl j hj).trans ((hf_37 rfl j hj).trans ((hf_31 j hj).trans ((hy_19 j hj).trans rfl))))) (fun G cr9 tr9 H => rd_n (hQ_20 G cr9 tr9 H) h6.1 (gComes_nn H.1.1.1 _ (by omega)) (Or.inr ⟨(H.rd_sum (by omega) hy_19 hf_32 hf_38.1 hf_44), h83, (fun z => h90 z.1)⟩))
                  · refine s_iload B dX9_round_93 8 rfl ?_
                    refine s_callSi B hsc (c_X9_ones l D g (nI k_15)) (gw_S ml_X9_244 sm_yX9_ones ini_RX9 co_yX9_ones) hd_X9_ones rfl rfl ⟨(Nat.le_of_ble_eq_true rfl), (Nat.le_of_ble_eq_true rfl)⟩ [] [0, 1, 2, 3, 4] rfl rfl rfl rfl rfl (Nat.le_of_ble_eq_true rfl) dX9_round_95 (fun r_45 u_46 hpo => ?_)
                    obtain ⟨⟨c_47, rfl, ho_48, ho_49, ho_50⟩, rfl⟩ := hpo
                    refine s_ws (ws' := [(b 0, .inr (9, [.int (nI n), .ref (b 1), .ref (b 2), .int 0, .ref (b 3), .ref (b 4), .ref (b 5), .ref (b 6), .ref (b 7), .ref (b 8), .int (I 10), .ref (b 9), .int (nI t), .int (I 13), .int (I 14), .int (I 15), .long W, .int (I 17), .int (I 18), .int (I 19), .int (I 20), .ref (b 10), .ref (b 11), .ref (b 12), .ref (b 13), .ref (b 14), .ref (b 15), .int (nI q), .int (nI mm), .ref (b 16), .ref (b 17), .ref (b 18), .ref (b 19), .ref (b 20), .ref (b 21), .int (I 35), .int (I 36), .int (I 37), .ref (b 22), .int (nI bd), .int (I 40), .int (I 41), .ref (b 23), .int (I 43), .ref (b 24)])), (b 1, .inl (g 0, 32, .inl a_child)), (b 2, .inl (g 0, 50, .inl a_row_41)), (b 3, .inl (g 0, 40, .inl a_events)), (b 6, .inl (g 0, 4, .inl a_laws))]) rfl ?_
                    refine s_iload B dX9_round_98 6 rfl ?_
                    refine s_callSi B hsc (c_X9_ones l D g v_13) (gw_S ml_X9_244 sm_yX9_ones ini_RX9 co_yX9_ones) hd_X9_ones rfl rfl ⟨(Nat.le_of_ble_eq_true rfl), (Nat.le_of_ble_eq_true rfl)⟩ [] [0, 1, 2, 3, 4] rfl rfl rfl rfl rfl (Nat.le_of_ble_eq_true rfl) dX9_round_100 (fun r_51 u_52 hpo => ?_)
                    obtain ⟨⟨c_53, rfl, ho_54, ho_55, ho_56⟩, rfl⟩ := hpo
                    refine s_ws (ws' := [(b 0, .inr (9, [.int (nI n), .ref (b 1), .ref (b 2), .int 0, .ref (b 3), .ref (b 4), .ref (b 5), .ref (b 6), .ref (b 7), .ref (b 8), .int (I 10), .ref (b 9), .int (nI t), .int (I 13), .int (I 14), .int (I 15), .long W, .int (I 17), .int (I 18), .int (I 19), .int (I 20), .ref (b 10), .ref (b 11), .ref (b 12), .ref (b 13), .ref (b 14), .ref (b 15), .int (nI q), .int (nI mm), .ref (b 16), .ref (b 17), .ref (b 18), .ref (b 19), .ref (b 20), .ref (b 21), .int (I 35), .int (I 36), .int (I 37), .ref (b 22), .int (nI bd), .int (I 40), .int (I 41), .ref (b 23), .int (I 43), .ref (b 24)])), (b 1, .inl (g 0, 32, .inl a_child)), (b 2, .inl (g 0, 50, .inl a_row_41)), (b 3, .inl (g 0, 40, .inl a_events)), (b 6, .inl (g 0, 4, .inl a_laws))]) rfl ?_
                    refine s_icmp_ge (tgt := 114) B dX9_round_103 rfl (fun h103 => ?_) (fun h103 => ?_)
                    · refine s_lv (lv' := [(0, _), (1, _), (2, _), (3, _), (4, _), (5, _), (6, _)]) [2, 3, 4, 5, 6, 7, 8] rfl ?_
                      refine s_ws (ws' := [(b 0, .inr (9, [.int (nI n), .ref (b 1), .ref (b 2), .int (nI 0), .ref (b 3), .ref (b 4), .ref (b 5), .ref (b 6), .ref (b 7), .ref (b 8), .int (I 10), .ref (b 9), .int (nI t), .int (I 13), .int (I 14), .int (I 15), .long W, .int (I 17), .int (I 18), .int (I 19), .int (I 20), .ref (b 10), .ref (b 11), .ref (b 12), .ref (b 13), .ref (b 14), .ref (b 15), .int (nI q), .int (nI mm), .ref (b 16), .ref (b 17), .ref (b 18), .ref (b 19), .ref (b 20), .ref (b 21), .int (I 35), .int (I 36), .int (I 37), .ref (b 22), .int (nI bd), .int (I 40), .int (I 41), .ref (b 23), .int (I 43), .ref (b 24)])), (b 1, .inl (g 0, 32, .inl a_child)), (b 2, .inl (g 0, 50, .inl a_row_41)), (b 3, .inl (g 0, 40, .inl a_events)), (b 6, .inl (g 0, 4, .inl a_laws))]) (by rfl) ?_
                      exact M114 v_13 v_14 a_row_41 h6 hk_4 h16 hk_8 h25 hk_12 h_16 ok_a_row_17 hz_18 hy_19 hQ_20 h43 ok_a_row_41 ((hf_42 rfl).trans (hf_36.trans (hf_30.trans (hz_18.trans rfl)))) (fun j hj => ((hf_43 rfl j hj).trans ((hf_37 rfl j hj).trans ((hf_31 j hj).trans ((hy_19 j hj).trans rfl))))) (fun G cr9 tr9 H => rd_n (hQ_20 G cr9 tr9 H) h6.1 (gComes_nn H.1.1.1 _ (by omega)) (Or.inr ⟨(H.rd_sum (by omega) hy_19 hf_32 hf_38.1 hf_44), h83, (fun z => z.2 (by rw [← ho_50 (n64 (by omega)), ← ho_56 (rd_b (hQ_20 G cr9 tr9 H) (by omega))]; exact h103))⟩))
                    · refine s_lv (lv' := [(0, _), (1, _), (2, _), (3, _), (6, _), (8, _)]) [2, 3, 4, 5, 8, 0] rfl ?_
                      refine s_ws (ws' := [(b 0, .inr (9, [.int (nI n), .ref (b 1), .ref (b 2), .int (nI 0), .ref (b 3), .ref (b 4), .ref (b 5), .ref (b 6), .ref (b 7), .ref (b 8), .int (I 10), .ref (b 9), .int (nI t), .int (I 13), .int (I 14), .int (I 15), .long W, .int (I 17), .int (I 18), .int (I 19), .int (I 20), .ref (b 10), .ref (b 11), .ref (b 12), .ref (b 13), .ref (b 14), .ref (b 15), .int (nI q), .int (nI mm), .ref (b 16), .ref (b 17), .ref (b 18), .ref (b 19), .ref (b 20), .ref (b 21), .int (I 35), .int (I 36), .int (I 37), .ref (b 22), .int (nI bd), .int (I 40), .int (I 41), .ref (b 23), .int (I 43), .ref (b 24)])), (b 1, .inl (g 0, 32, .inl a_child)), (b 2, .inl (g 0, 50, .inl a_row_41)), (b 3, .inl (g 0, 40, .inl a_events)), (b 6, .inl (g 0, 4, .inl a_laws))]) (by rfl) ?_
                      exact M106 r_39 a_row_41 h6 hk_4 h16 hk_8 h25 hk_12 h_16 ok_a_row_17 hz_18 hy_19 hQ_20 h43 ok_a_row_41 ((hf_42 rfl).trans (hf_36.trans (hf_30.trans (hz_18.trans rfl)))) (fun j hj => ((hf_43 rfl j hj).trans ((hf_37 rfl j hj).trans ((hf_31 j hj).trans ((hy_19 j hj).trans rfl))))) (fun G cr9 tr9 H => rd_y (hQ_20 G cr9 tr9 H) (H.rd_sum (by omega) hy_19 hf_32 hf_38.1 hf_44) (by rw [← ho_26 (n64 (by omega))]; exact h52) (Or.inr ⟨h90, by rw [← ho_50 (n64 (by omega)), ← ho_56 (rd_b (hQ_20 G cr9 tr9 H) (by omega))]; exact h103⟩))
        refine s_iconst B dX9_round_30 ic_0 ?_
        refine s_istore (lv' := [(4, _), (0, _), (1, _), (2, _), (3, _)]) B dX9_round_31 (Nat.le_of_ble_eq_true rfl) rfl ?_
        refine s_iconst B dX9_round_33 ic_m1 ?_
        refine s_istore (lv' := [(5, _), (4, _), (0, _), (1, _), (2, _), (3, _)]) B dX9_round_34 (Nat.le_of_ble_eq_true rfl) rfl ?_
        refine s_iconst B dX9_round_36 ic_0 ?_
        refine s_istore (lv' := [(6, _), (5, _), (4, _), (0, _), (1, _), (2, _), (3, _)]) B dX9_round_37 (Nat.le_of_ble_eq_true rfl) rfl ?_
        refine s_lv (lv' := [(0, _), (1, _), (2, _), (3, _), (4, _), (5, _), (6, _)]) [3, 4, 5, 6, 2, 1, 0] rfl ?_
        refine s_lve (lv' := [(0, .ref (b 0)), (1, .int (nI k_3)), (2, .int (nI k_7)), (3, .int (nI k_11)), (4, .int 0), (5, .int (-1)), (6, .int (nI 0))]) (by first | rfl | (simp only [if_pos, if_neg]; done)) ?_
        exact L39 _ 0 (-1) 0 a_row (Nat.lt_succ_self _) h6 hk_4 h16 hk_8 h25 hk_12 (by omega) ok_a_row rfl (fun j hj => rfl) (fun _ _ _ _ => Or.inl ⟨rfl, rfl, rfl⟩)
      · refine s_iconst B dX9_round_28 ic_m1 ?_
        refine s_iret B hQ hr dX9_round_29 rfl ?_
        exact ⟨a_row, ok_a_row, rfl, (fun j hj => rfl), (fun G cr9 tr9 H => (H.round_no (by first | exact Or.inl (by assumption) | exact Or.inr (Or.inl (by assumption)) | exact Or.inr (Or.inr (by assumption))))), rfl⟩
def rmX9_good : Room := { frames := 5, cells := 0, slots := 0, locals := 119 }
theorem hd_X9_good : yX9_good.cls = RX9 ∧ yX9_good.cls ≠ "java/lang/invoke/MethodHandle" ∧ yX9_good.cls ≠ "java/lang/invoke/VarHandle" ∧ (parseMethodDescriptor yX9_good.desc).map (fun d => d.parameters.length) = some 1 := by decide +kernel
set_option maxHeartbeats 4000000 in
set_option maxRecDepth 100000 in
theorem c_X9_good (l : Launch) (D : va_G) (g : Nat → ClassId) (b : Nat → Nat) (I : Nat → Int32) (W : Int64) (n p0 t q mm bd : Nat) (a_child : Nat → Int32) (a_row : Nat → Int32) (a_events : Nat → Int32) (a_laws : Nat → Int32) (c0 : Int32) (hn : n ≤ 8) (hp : p0 = 0 ∨ p0 = 25) (ht : t ≤ 240) (hq0 : q ≤ 20) (hmm : mm ≤ 20) (hbd : bd ≤ 30) (ok_a_row : RowOk a_row) : Ci l yX9_good (WW yX9_good cX9_good 4 (some FieldType.int)) rmX9_good D vwCl (TY g) [.ref (b 0), .int c0] [(b 0, .inr (9, [.int (nI n), .ref (b 1), .ref (b 2), .int (nI 0), .ref (b 3), .ref (b 4), .ref (b 5), .ref (b 6), .ref (b 7), .ref (b 8), .int (I 10), .ref (b 9), .int (nI t), .int (I 13), .int (I 14), .int (I 15), .long W, .int (I 17), .int (I 18), .int (I 19), .int (I 20), .ref (b 10), .ref (b 11), .ref (b 12), .ref (b 13), .ref (b 14), .ref (b 15), .int (nI q), .int (nI mm), .ref (b 16), .ref (b 17), .ref (b 18), .ref (b 19), .ref (b 20), .ref (b 21), .int (I 35), .int (I 36), .int (I 37), .ref (b 22), .int (nI bd), .int (I 40), .int (I 41), .ref (b 23), .int (I 43), .ref (b 24)])), (b 1, .inl (g 0, 32, .inl a_child)), (b 2, .inl (g 0, 50, .inl a_row)), (b 3, .inl (g 0, 40, .inl a_events)), (b 6, .inl (g 0, 4, .inl a_laws))] (fun r u => ∃ (a_row' : Nat → Int32), (RowOk a_row') ∧ (a_row' 0 = a_row 0) ∧ (∀ j : Nat, j < 25 → a_row' j = a_row j) ∧ (∀ (G : MG) (cr9 tr9 : MA), RG G n a_child a_row a_events cr9 tr9 a_laws (I 10) → r = aGood c0 G) ∧ u = [(b 0, .inr (9, [.int (nI n), .ref (b 1), .ref (b 2), .int (nI 0), .ref (b 3), .ref (b 4), .ref (b 5), .ref (b 6), .ref (b 7), .ref (b 8), .int (I 10), .ref (b 9), .int (nI t), .int (I 13), .int (I 14), .int (I 15), .long W, .int (I 17), .int (I 18), .int (I 19), .int (I 20), .ref (b 10), .ref (b 11), .ref (b 12), .ref (b 13), .ref (b 14), .ref (b 15), .int (nI q), .int (nI mm), .ref (b 16), .ref (b 17), .ref (b 18), .ref (b 19), .ref (b 20), .ref (b 21), .int (I 35), .int (I 36), .int (I 37), .ref (b 22), .int (nI bd), .int (I 40), .int (I 41), .ref (b 23), .int (I 43), .ref (b 24)])), (b 1, .inl (g 0, 32, .inl a_child)), (b 2, .inl (g 0, 50, .inl a_row')), (b 3, .inl (g 0, 40, .inl a_events)), (b 6, .inl (g 0, 4, .inl a_laws))]) := by
  refine ci_in (by decide) (Nat.le_of_ble_eq_true rfl) (a0 := [b 0, b 1, b 2, b 3, b 6]) rfl (fun p e s m args below meth c A Q hQ B hr hsc => ?_)
  refine s_aload_n B dX9_good_0 rfl 0 rfl ?_
  refine s_iload_n B dX9_good_1 rfl 1 rfl ?_
  refine s_callVi B hsc (c_X9_isChild l D g b (upd (upd (upd (upd I 12 (nI t)) 27 (nI q)) 28 (nI mm)) 39 (nI bd)) W n 0 c0) (gw_V ml_X9_206 im_yX9_isChild se_yX9_isChild ini_RX9 co_yX9_isChild) hd_X9_isChild rfl rfl ⟨(Nat.le_of_ble_eq_true rfl), (Nat.le_of_ble_eq_true rfl)⟩ [0] [0, 1, 2, 3, 4] rfl rfl rfl (ci := 9) (q0 := 0) rfl rfl rfl rfl rfl (Nat.le_of_ble_eq_true rfl) dX9_good_2 (fun r_1 u_2 hpo => ?_)
  obtain ⟨rfl, rfl⟩ := hpo
  refine s_st (st' := [.int (if ¬ c0 < 0 ∧ ¬ nI n - 1 < c0 then 1 else 0)]) rfl ?_
  refine s_ws (ws' := [(b 0, .inr (9, [.int (nI n), .ref (b 1), .ref (b 2), .int (nI 0), .ref (b 3), .ref (b 4), .ref (b 5), .ref (b 6), .ref (b 7), .ref (b 8), .int (I 10), .ref (b 9), .int (nI t), .int (I 13), .int (I 14), .int (I 15), .long W, .int (I 17), .int (I 18), .int (I 19), .int (I 20), .ref (b 10), .ref (b 11), .ref (b 12), .ref (b 13), .ref (b 14), .ref (b 15), .int (nI q), .int (nI mm), .ref (b 16), .ref (b 17), .ref (b 18), .ref (b 19), .ref (b 20), .ref (b 21), .int (I 35), .int (I 36), .int (I 37), .ref (b 22), .int (nI bd), .int (I 40), .int (I 41), .ref (b 23), .int (I 43), .ref (b 24)])), (b 1, .inl (g 0, 32, .inl a_child)), (b 2, .inl (g 0, 50, .inl a_row)), (b 3, .inl (g 0, 40, .inl a_events)), (b 6, .inl (g 0, 4, .inl a_laws))]) rfl ?_
  refine s_bif_ne (tgt := 10) B dX9_good_5 rfl (fun h5 => ?_) (fun h5 => ?_)
  · obtain ⟨k_3, hk_4, rfl⟩ := nat_lt1 (N := n) h5.1 h5.2 (by omega)
    have L44 : ∀ (jj44 : Nat) (v_14 : Int32) (a_row_15 : Nat → Int32), 40 - (a_row_15 25).toNatClampNeg < jj44 → (¬ (nI k_3) < 0 ∧ ¬ nI n - 1 < (nI k_3)) → (k_3 < n) → ((a_row (17 + k_3)) < (a_laws 1)) → (RowOk a_row_15) → (a_row_15 0 = a_row 0) → (∀ j : Nat, j < 25 → a_row_15 j = a_row j) → (∀ (G : MG) (cr9 tr9 : MA), RG G n a_child a_row a_events cr9 tr9 a_laws (I 10) → GdX G n k_3 a_child a_row a_row_15 a_events a_laws v_14) → Sx p l e rmX9_good s m args below meth c D vwCl A 4 Q 44 [(0, .ref (b 0)), (1, .int (nI k_3)), (2, .int v_14)] [] [(b 0, .inr (9, [.int (nI n), .ref (b 1), .ref (b 2), .int (nI 25), .ref (b 3), .ref (b 4), .ref (b 5), .ref (b 6), .ref (b 7), .ref (b 8), .int (I 10), .ref (b 9), .int (nI t), .int (I 13), .int (I 14), .int (I 15), .long W, .int (I 17), .int (I 18), .int (I 19), .int (I 20), .ref (b 10), .ref (b 11), .ref (b 12), .ref (b 13), .ref (b 14), .ref (b 15), .int (nI q), .int (nI mm), .ref (b 16), .ref (b 17), .ref (b 18), .ref (b 19), .ref (b 20), .ref (b 21), .int (I 35), .int (I 36), .int (I 37), .ref (b 22), .int (nI bd), .int (I 40), .int (I 41), .ref (b 23), .int (I 43), .ref (b 24)])), (b 1, .inl (g 0, 32, .inl a_child)), (b 2, .inl (g 0, 50, .inl a_row_15)), (b 3, .inl (g 0, 40, .inl a_events)), (b 6, .inl (g 0, 4, .inl a_laws))] := by
      intro jj44
      induction jj44 with
      | zero => intro v_14 a_row_15 hj; exact absurd hj (Nat.not_lt_zero _)
      | succ jj44 ih44 =>
        intro v_14 a_row_15 hj44 h5 hk_4 h25 ok_a_row_15 hz_16 hy_17 hQ_18
        refine s_aload_n B dX9_good_44 rfl 0 rfl ?_
        refine s_get (T := TX9) B inX9 0 rfl rfl 2 (Nat.le_of_ble_eq_true rfl) fl_X9_13 rfl rfl dX9_good_45 ?_
        refine s_aload_n B dX9_good_48 rfl 0 rfl ?_
        refine s_get (T := TX9) B inX9 0 rfl rfl 3 (Nat.le_of_ble_eq_true rfl) fl_X9_222 rfl rfl dX9_good_49 ?_
        refine s_ialdN B 2 0 rfl rfl dX9_good_52 (by omega) (by decide) ?_
        obtain ⟨d_19, hd_20, hr__21⟩ : le40 (a_row_15 25) := RowOk.at ok_a_row_15 (by omega)
        refine s_st (st' := [.int (nI d_19)]) (by rw [hr__21]) ?_
        refine s_bipush B dX9_good_53 bp_40 ?_
        refine s_icmp_ge (tgt := 110) B dX9_good_55 rfl (fun h55 => ?_) (fun h55 => ?_)
        · replace h55 : 40 ≤ d_19 := (nI_leI (a := 40) (b := d_19) (by omega) (by omega)).mp h55
          refine s_aload_n B dX9_good_110 rfl 0 rfl ?_
          refine s_iconst B dX9_good_111 ic_0 ?_
          refine s_put (T := TX9) (ws' := [_, _, _, _, _]) B inX9 tyX9_ok nmX9 0 rfl rfl 3 (Nat.le_of_ble_eq_true rfl) fl_X9_222 rfl rfl rfl rfl (Nat.le_of_ble_eq_true rfl) rfl dX9_good_112 ?_
          refine s_iload_n B dX9_good_115 rfl 2 rfl ?_
          refine s_iret B hQ hr dX9_good_116 rfl ?_
          exact ⟨a_row_15, ok_a_row_15, (hz_16.trans rfl), (fun j hj => ((hy_17 j hj).trans rfl)), (fun G cr9 tr9 H => (H.gd_f (by omega) (hQ_18 G cr9 tr9 H) (Or.inr ⟨hr__21, by omega, by omega⟩))), rfl⟩
        · replace h55 : ¬ 40 ≤ d_19 := fun hh => h55 ((nI_leI (a := 40) (b := d_19) (by omega) (by omega)).mpr hh)
          refine s_iload_n B dX9_good_58 rfl 2 rfl ?_
          refine s_if_ge (tgt := 110) B dX9_good_59 rfl (fun h59 => ?_) (fun h59 => ?_)
          · refine s_aload_n B dX9_good_110 rfl 0 rfl ?_
            refine s_iconst B dX9_good_111 ic_0 ?_
            refine s_put (T := TX9) (ws' := [_, _, _, _, _]) B inX9 tyX9_ok nmX9 0 rfl rfl 3 (Nat.le_of_ble_eq_true rfl) fl_X9_222 rfl rfl rfl rfl (Nat.le_of_ble_eq_true rfl) rfl dX9_good_112 ?_
            refine s_iload_n B dX9_good_115 rfl 2 rfl ?_
            refine s_iret B hQ hr dX9_good_116 rfl ?_
            exact ⟨a_row_15, ok_a_row_15, (hz_16.trans rfl), (fun j hj => ((hy_17 j hj).trans rfl)), (fun G cr9 tr9 H => (H.gd_f (j := 0) (by omega) (hQ_18 G cr9 tr9 H) (Or.inl (Int32.not_lt.mpr h59)))), rfl⟩
          · refine s_aload_n B dX9_good_62 rfl 0 rfl ?_
            refine s_callVi B hsc (c_X9_dayGoes l D g b I W n 25 t q mm bd a_child a_row_15 a_events a_laws (by omega) (by omega) (by omega) (by omega) (by omega) (by omega) ok_a_row_15 (by first | assumption | decide | (intro h9; first | assumption | exact absurd h9 (by decide)) | omega | rfl | (refine ⟨_, ?_, by assumption⟩; omega) | (clear hQ B hr hsc; grind))) (gw_V ml_X9_238 im_yX9_dayGoes se_yX9_dayGoes ini_RX9 co_yX9_dayGoes) hd_X9_dayGoes rfl rfl ⟨(Nat.le_of_ble_eq_true rfl), (Nat.le_of_ble_eq_true rfl)⟩ [0, 1, 2, 3, 4] [0, 1, 2, 3, 4] rfl rfl rfl (ci := 9) (q0 := 0) rfl rfl rfl rfl rfl (Nat.le_of_ble_eq_true rfl) dX9_good_63 (fun r_22 u_23 hpo => ?_)
            obtain ⟨a_row_24, ok_a_row_24, hf_25, hf_26, hf_27, hf_28, rfl⟩ := hpo
            refine s_ws (ws' := [(b 0, .inr (9, [.int (nI n), .ref (b 1), .ref (b 2), .int (nI 25), .ref (b 3), .ref (b 4), .ref (b 5), .ref (b 6), .ref (b 7), .ref (b 8), .int (I 10), .ref (b 9), .int (nI t), .int (I 13), .int (I 14), .int (I 15), .long W, .int (I 17), .int (I 18), .int (I 19), .int (I 20), .ref (b 10), .ref (b 11), .ref (b 12), .ref (b 13), .ref (b 14), .ref (b 15), .int (nI q), .int (nI mm), .ref (b 16), .ref (b 17), .ref (b 18), .ref (b 19), .ref (b 20), .ref (b 21), .int (I 35), .int (I 36), .int (I 37), .ref (b 22), .int (nI bd), .int (I 40), .int (I 41), .ref (b 23), .int (I 43), .ref (b 24)])), (b 1, .inl (g 0, 32, .inl a_child)), (b 2, .inl (g 0, 50, .inl a_row_24)), (b 3, .inl (g 0, 40, .inl a_events)), (b 6, .inl (g 0, 4, .inl a_laws))]) rfl ?_
            refine s_istore_n (lv' := [(3, _), (0, _), (1, _), (2, _)]) B dX9_good_66 rfl (Nat.le_of_ble_eq_true rfl) rfl ?_
            refine s_aload_n B dX9_good_67 rfl 1 rfl ?_
            refine s_get (T := TX9) B inX9 0 rfl rfl 2 (Nat.le_of_ble_eq_true rfl) fl_X9_13 rfl rfl dX9_good_68 ?_
            refine s_aload_n B dX9_good_71 rfl 1 rfl ?_
            refine s_get (T := TX9) B inX9 0 rfl rfl 3 (Nat.le_of_ble_eq_true rfl) fl_X9_222 rfl rfl dX9_good_72 ?_
            refine s_bipush B dX9_good_75 bp_17 ?_
            refine s_iaddE B dX9_good_77 (nI_add 25 17) ?_
            refine s_iload_n B dX9_good_78 rfl 2 rfl ?_
            refine s_iaddE B dX9_good_79 (nI_add (25 + 17) k_3) ?_
            refine s_ialdN B 2 0 rfl rfl dX9_good_80 (by omega) (by decide) ?_
            refine s_aload_n B dX9_good_81 rfl 1 rfl ?_
            refine s_get (T := TX9) B inX9 0 rfl rfl 7 (Nat.le_of_ble_eq_true rfl) fl_X9_25 rfl rfl dX9_good_82 ?_
            refine s_iconst B dX9_good_85 ic_1 ?_
            refine s_ialdN B 4 0 rfl rfl dX9_good_86 (by decide) (by decide) ?_
            refine s_icmp_lt (tgt := 104) B dX9_good_87 rfl (fun h87 => ?_) (fun h87 => ?_)
            · refine s_bipush B dX9_good_104 bp_m3 ?_
              refine s_istore_n (lv' := [(2, _), (3, _), (0, _), (1, _)]) B dX9_good_106 rfl (Nat.le_of_ble_eq_true rfl) rfl ?_
              refine s_goto (tgt := 44) B dX9_good_107 rfl ?_
              refine s_lv (lv' := [(0, _), (1, _), (2, _)]) [2, 3, 0] rfl ?_
              exact ih44 (-3) a_row_24 (by have e1 := hf_25 _ (by omega) hr__21; rw [e1, nI_clamp (by omega)]; rw [hr__21, nI_clamp (by omega)] at hj44; omega) h5 hk_4 h25 ok_a_row_24 ((hf_26 rfl).trans (hz_16.trans rfl)) (fun j hj => ((hf_28 rfl j hj).trans ((hy_17 j hj).trans rfl))) (fun G cr9 tr9 H => (H.gd_s (p := 25 + 17 + k_3) (by omega) (hQ_18 G cr9 tr9 H) (Int32.not_le.mp h59) hr__21 (by omega) (by omega) hf_27 (by omega)).1 h87)
            · refine s_aload_n B dX9_good_90 rfl 1 rfl ?_
              refine s_get (T := TX9) B inX9 0 rfl rfl 2 (Nat.le_of_ble_eq_true rfl) fl_X9_13 rfl rfl dX9_good_91 ?_
              refine s_aload_n B dX9_good_94 rfl 1 rfl ?_
              refine s_get (T := TX9) B inX9 0 rfl rfl 3 (Nat.le_of_ble_eq_true rfl) fl_X9_222 rfl rfl dX9_good_95 ?_
              refine s_ialdN B 2 0 rfl rfl dX9_good_98 (by omega) (by decide) ?_
              obtain ⟨d_29, hd_30, hr__31⟩ : le40 (a_row_24 25) := RowOk.at ok_a_row_24 (by omega)
              refine s_st (st' := [.int (nI d_29)]) (by rw [hr__31]) ?_
              refine s_iconst B dX9_good_99 ic_1 ?_
              refine s_isub B dX9_good_100 ?_
              refine s_goto (tgt := 106) B dX9_good_101 rfl ?_
              refine s_istore_n (lv' := [(2, _), (3, _), (0, _), (1, _)]) B dX9_good_106 rfl (Nat.le_of_ble_eq_true rfl) rfl ?_
              refine s_goto (tgt := 44) B dX9_good_107 rfl ?_
              refine s_lv (lv' := [(0, _), (1, _), (2, _)]) [2, 3, 0] rfl ?_
              exact ih44 ((nI d_29) - 1) a_row_24 (by have e1 := hf_25 _ (by omega) hr__21; rw [e1, nI_clamp (by omega)]; rw [hr__21, nI_clamp (by omega)] at hj44; omega) h5 hk_4 h25 ok_a_row_24 ((hf_26 rfl).trans (hz_16.trans rfl)) (fun j hj => ((hf_28 rfl j hj).trans ((hy_17 j hj).trans rfl))) (fun G cr9 tr9 H => (H.gd_s (p := 25 + 17 + k_3) (by omega) (hQ_18 G cr9 tr9 H) (Int32.not_le.mp h59) hr__21 (by omega) (by omega) hf_27 (by omega)).2 h87 _ hr__31)
    refine s_aload_n B dX9_good_10 rfl 0 rfl ?_
    refine s_get (T := TX9) B inX9 0 rfl rfl 2 (Nat.le_of_ble_eq_true rfl) fl_X9_13 rfl rfl dX9_good_11 ?_
    refine s_bipush B dX9_good_14 bp_17 ?_
    refine s_iload_n B dX9_good_16 rfl 1 rfl ?_
    refine s_iaddE B dX9_good_17 (nI_add 17 k_3) ?_
    refine s_ialdN B 2 0 rfl rfl dX9_good_18 (by omega) (by decide) ?_
    refine s_aload_n B dX9_good_19 rfl 0 rfl ?_
    refine s_get (T := TX9) B inX9 0 rfl rfl 7 (Nat.le_of_ble_eq_true rfl) fl_X9_25 rfl rfl dX9_good_20 ?_
    refine s_iconst B dX9_good_23 ic_1 ?_
    refine s_ialdN B 4 0 rfl rfl dX9_good_24 (by decide) (by decide) ?_
    refine s_icmp_lt (tgt := 37) B dX9_good_25 rfl (fun h25 => ?_) (fun h25 => ?_)
    · refine s_aload_n B dX9_good_37 rfl 0 rfl ?_
      refine s_callVv B hsc (c_X9_lends l D g b I W n 0 t q mm bd a_row (by omega) (by omega) (by omega) (by omega) (by omega) (by omega) ok_a_row) (gw_V ml_X9_247 im_yX9_lends se_yX9_lends ini_RX9 co_yX9_lends) hd_X9_lends rfl rfl ⟨(Nat.le_of_ble_eq_true rfl), (Nat.le_of_ble_eq_true rfl)⟩ [0, 2] [0, 1, 2, 3, 4] rfl rfl rfl (ci := 9) (q0 := 0) rfl rfl rfl rfl rfl (Nat.le_of_ble_eq_true rfl) dX9_good_38 (fun u_6 hpo => ?_)
      obtain ⟨a_row_7, ok_a_row_7, hf_8, hf_9, hf_10, rfl⟩ := hpo
      refine s_ws (ws' := [(b 0, .inr (9, [.int (nI n), .ref (b 1), .ref (b 2), .int (nI 25), .ref (b 3), .ref (b 4), .ref (b 5), .ref (b 6), .ref (b 7), .ref (b 8), .int (I 10), .ref (b 9), .int (nI t), .int (I 13), .int (I 14), .int (I 15), .long W, .int (I 17), .int (I 18), .int (I 19), .int (I 20), .ref (b 10), .ref (b 11), .ref (b 12), .ref (b 13), .ref (b 14), .ref (b 15), .int (nI q), .int (nI mm), .ref (b 16), .ref (b 17), .ref (b 18), .ref (b 19), .ref (b 20), .ref (b 21), .int (I 35), .int (I 36), .int (I 37), .ref (b 22), .int (nI bd), .int (I 40), .int (I 41), .ref (b 23), .int (I 43), .ref (b 24)])), (b 1, .inl (g 0, 32, .inl a_child)), (b 2, .inl (g 0, 50, .inl a_row_7)), (b 3, .inl (g 0, 40, .inl a_events)), (b 6, .inl (g 0, 4, .inl a_laws))]) rfl ?_
      refine s_bipush B dX9_good_41 bp_m3 ?_
      refine s_istore_n (lv' := [(2, _), (0, _), (1, _)]) B dX9_good_43 rfl (Nat.le_of_ble_eq_true rfl) rfl ?_
      refine s_lv (lv' := [(0, _), (1, _), (2, _)]) [1, 2, 0] rfl ?_
      exact L44 _ (-3) a_row_7 (Nat.lt_succ_self _) h5 hk_4 h25 ok_a_row_7 (hf_8.trans rfl) (fun j hj => ((hf_9 j hj).trans rfl)) (fun G cr9 tr9 H => H.gd_0 (by omega) hf_10 (by omega) h25)
    · refine s_aload_n B dX9_good_28 rfl 0 rfl ?_
      refine s_get (T := TX9) B inX9 0 rfl rfl 2 (Nat.le_of_ble_eq_true rfl) fl_X9_13 rfl rfl dX9_good_29 ?_
      refine s_iconst B dX9_good_32 ic_0 ?_
      refine s_ialdN B 2 0 rfl rfl dX9_good_33 (by decide) (by decide) ?_
      obtain ⟨d_11, hd_12, hr__13⟩ : le40 (a_row 0) := RowOk.at ok_a_row (by omega)
      refine s_st (st' := [.int (nI d_11)]) (by rw [hr__13]) ?_
      refine s_iconst B dX9_good_34 ic_1 ?_
      refine s_isub B dX9_good_35 ?_
      refine s_iret B hQ hr dX9_good_36 rfl ?_
      exact ⟨a_row, ok_a_row, rfl, (fun j hj => rfl), (fun G cr9 tr9 H => (H.good_now (by omega) (by omega) h25 hr__13 (by omega))), rfl⟩
  · refine s_iconst B dX9_good_8 ic_m1 ?_
    refine s_iret B hQ hr dX9_good_9 rfl ?_
    exact ⟨a_row, ok_a_row, rfl, (fun j hj => rfl), (fun G cr9 tr9 H => (H.good_no h5)), rfl⟩
def rmX9_meet : Room := { frames := 5, cells := 0, slots := 0, locals := 119 }
theorem hd_X9_meet : yX9_meet.cls = RX9 ∧ yX9_meet.cls ≠ "java/lang/invoke/MethodHandle" ∧ yX9_meet.cls ≠ "java/lang/invoke/VarHandle" ∧ (parseMethodDescriptor yX9_meet.desc).map (fun d => d.parameters.length) = some 3 := by decide +kernel
set_option maxHeartbeats 4000000 in
set_option maxRecDepth 100000 in
theorem c_X9_meet (l : Launch) (D : va_G) (g : Nat → ClassId) (b : Nat → Nat) (I : Nat → Int32) (W : Int64) (n p0 t q mm bd : Nat) (a_child : Nat → Int32) (a_row : Nat → Int32) (a_events : Nat → Int32) (a_laws : Nat → Int32) (x0 : Int32) (y0 : Int32) (n0 : Int32) (hn : n ≤ 8) (hp : p0 = 0 ∨ p0 = 25) (ht : t ≤ 240) (hq0 : q ≤ 20) (hmm : mm ≤ 20) (hbd : bd ≤ 30) (ok_a_row : RowOk a_row) : Ci l yX9_meet (WW yX9_meet cX9_meet 7 (some FieldType.int)) rmX9_meet D vwCl (TY g) [.ref (b 0), .int x0, .int y0, .int n0] [(b 0, .inr (9, [.int (nI n), .ref (b 1), .ref (b 2), .int (nI 0), .ref (b 3), .ref (b 4), .ref (b 5), .ref (b 6), .ref (b 7), .ref (b 8), .int (I 10), .ref (b 9), .int (nI t), .int (I 13), .int (I 14), .int (I 15), .long W, .int (I 17), .int (I 18), .int (I 19), .int (I 20), .ref (b 10), .ref (b 11), .ref (b 12), .ref (b 13), .ref (b 14), .ref (b 15), .int (nI q), .int (nI mm), .ref (b 16), .ref (b 17), .ref (b 18), .ref (b 19), .ref (b 20), .ref (b 21), .int (I 35), .int (I 36), .int (I 37), .ref (b 22), .int (nI bd), .int (I 40), .int (I 41), .ref (b 23), .int (I 43), .ref (b 24)])), (b 1, .inl (g 0, 32, .inl a_child)), (b 2, .inl (g 0, 50, .inl a_row)), (b 3, .inl (g 0, 40, .inl a_events)), (b 6, .inl (g 0, 4, .inl a_laws))] (fun r u => ∃ (a_row' : Nat → Int32), (RowOk a_row') ∧ (a_row' 0 = a_row 0) ∧ (∀ j : Nat, j < 25 → a_row' j = a_row j) ∧ (∀ (G : MG) (cr9 tr9 : MA), RG G n a_child a_row a_events cr9 tr9 a_laws (I 10) → r = aMeet x0 y0 n0 G) ∧ u = [(b 0, .inr (9, [.int (nI n), .ref (b 1), .ref (b 2), .int (nI 0), .ref (b 3), .ref (b 4), .ref (b 5), .ref (b 6), .ref (b 7), .ref (b 8), .int (I 10), .ref (b 9), .int (nI t), .int (I 13), .int (I 14), .int (I 15), .long W, .int (I 17), .int (I 18), .int (I 19), .int (I 20), .ref (b 10), .ref (b 11), .ref (b 12), .ref (b 13), .ref (b 14), .ref (b 15), .int (nI q), .int (nI mm), .ref (b 16), .ref (b 17), .ref (b 18), .ref (b 19), .ref (b 20), .ref (b 21), .int (I 35), .int (I 36), .int (I 37), .ref (b 22), .int (nI bd), .int (I 40), .int (I 41), .ref (b 23), .int (I 43), .ref (b 24)])), (b 1, .inl (g 0, 32, .inl a_child)), (b 2, .inl (g 0, 50, .inl a_row')), (b 3, .inl (g 0, 40, .inl a_events)), (b 6, .inl (g 0, 4, .inl a_laws))]) := by
  refine ci_in (by decide) (Nat.le_of_ble_eq_true rfl) (a0 := [b 0, b 1, b 2, b 3, b 6]) rfl (fun p e s m args below meth c A Q hQ B hr hsc => ?_)
  refine s_aload_n B dX9_meet_0 rfl 0 rfl ?_
  refine s_iload_n B dX9_meet_1 rfl 1 rfl ?_
  refine s_callVi B hsc (c_X9_isChild l D g b (upd (upd (upd (upd I 12 (nI t)) 27 (nI q)) 28 (nI mm)) 39 (nI bd)) W n 0 x0) (gw_V ml_X9_206 im_yX9_isChild se_yX9_isChild ini_RX9 co_yX9_isChild) hd_X9_isChild rfl rfl ⟨(Nat.le_of_ble_eq_true rfl), (Nat.le_of_ble_eq_true rfl)⟩ [0] [0, 1, 2, 3, 4] rfl rfl rfl (ci := 9) (q0 := 0) rfl rfl rfl rfl rfl (Nat.le_of_ble_eq_true rfl) dX9_meet_2 (fun r_1 u_2 hpo => ?_)
  obtain ⟨rfl, rfl⟩ := hpo
  refine s_st (st' := [.int (if ¬ x0 < 0 ∧ ¬ nI n - 1 < x0 then 1 else 0)]) rfl ?_
  refine s_ws (ws' := [(b 0, .inr (9, [.int (nI n), .ref (b 1), .ref (b 2), .int (nI 0), .ref (b 3), .ref (b 4), .ref (b 5), .ref (b 6), .ref (b 7), .ref (b 8), .int (I 10), .ref (b 9), .int (nI t), .int (I 13), .int (I 14), .int (I 15), .long W, .int (I 17), .int (I 18), .int (I 19), .int (I 20), .ref (b 10), .ref (b 11), .ref (b 12), .ref (b 13), .ref (b 14), .ref (b 15), .int (nI q), .int (nI mm), .ref (b 16), .ref (b 17), .ref (b 18), .ref (b 19), .ref (b 20), .ref (b 21), .int (I 35), .int (I 36), .int (I 37), .ref (b 22), .int (nI bd), .int (I 40), .int (I 41), .ref (b 23), .int (I 43), .ref (b 24)])), (b 1, .inl (g 0, 32, .inl a_child)), (b 2, .inl (g 0, 50, .inl a_row)), (b 3, .inl (g 0, 40, .inl a_events)), (b 6, .inl (g 0, 4, .inl a_laws))]) rfl ?_
  refine s_bif_eq (tgt := 31) B dX9_meet_5 rfl (fun h5 => ?_) (fun h5 => ?_)
  · refine s_iconst B dX9_meet_31 ic_m1 ?_
    refine s_iret B hQ hr dX9_meet_32 rfl ?_
    exact ⟨a_row, ok_a_row, rfl, (fun j hj => rfl), (fun G cr9 tr9 H => (H.meet_no (by first | exact Or.inl h5 | exact Or.inr (Or.inl h13) | exact Or.inr (Or.inr (Or.inl (congrArg nI h18))) | exact Or.inr (Or.inr (Or.inr h28))))), rfl⟩
  · obtain ⟨k_3, hk_4, rfl⟩ := nat_lt1 (N := n) h5.1 h5.2 (by omega)
    refine s_aload_n B dX9_meet_8 rfl 0 rfl ?_
    refine s_iload_n B dX9_meet_9 rfl 2 rfl ?_
    refine s_callVi B hsc (c_X9_isChild l D g b (upd (upd (upd (upd I 12 (nI t)) 27 (nI q)) 28 (nI mm)) 39 (nI bd)) W n 0 y0) (gw_V ml_X9_206 im_yX9_isChild se_yX9_isChild ini_RX9 co_yX9_isChild) hd_X9_isChild rfl rfl ⟨(Nat.le_of_ble_eq_true rfl), (Nat.le_of_ble_eq_true rfl)⟩ [0] [0, 1, 2, 3, 4] rfl rfl rfl (ci := 9) (q0 := 0) rfl rfl rfl rfl rfl (Nat.le_of_ble_eq_true rfl) dX9_meet_10 (fun r_5 u_6 hpo => ?_)
    obtain ⟨rfl, rfl⟩ := hpo
    refine s_st (st' := [.int (if ¬ y0 < 0 ∧ ¬ nI n - 1 < y0 then 1 else 0)]) rfl ?_
    refine s_ws (ws' := [(b 0, .inr (9, [.int (nI n), .ref (b 1), .ref (b 2), .int (nI 0), .ref (b 3), .ref (b 4), .ref (b 5), .ref (b 6), .ref (b 7), .ref (b 8), .int (I 10), .ref (b 9), .int (nI t), .int (I 13), .int (I 14), .int (I 15), .long W, .int (I 17), .int (I 18), .int (I 19), .int (I 20), .ref (b 10), .ref (b 11), .ref (b 12), .ref (b 13), .ref (b 14), .ref (b 15), .int (nI q), .int (nI mm), .ref (b 16), .ref (b 17), .ref (b 18), .ref (b 19), .ref (b 20), .ref (b 21), .int (I 35), .int (I 36), .int (I 37), .ref (b 22), .int (nI bd), .int (I 40), .int (I 41), .ref (b 23), .int (I 43), .ref (b 24)])), (b 1, .inl (g 0, 32, .inl a_child)), (b 2, .inl (g 0, 50, .inl a_row)), (b 3, .inl (g 0, 40, .inl a_events)), (b 6, .inl (g 0, 4, .inl a_laws))]) rfl ?_
    refine s_bif_eq (tgt := 31) B dX9_meet_13 rfl (fun h13 => ?_) (fun h13 => ?_)
    · refine s_iconst B dX9_meet_31 ic_m1 ?_
      refine s_iret B hQ hr dX9_meet_32 rfl ?_
      exact ⟨a_row, ok_a_row, rfl, (fun j hj => rfl), (fun G cr9 tr9 H => (H.meet_no (by first | exact Or.inl h5 | exact Or.inr (Or.inl h13) | exact Or.inr (Or.inr (Or.inl (congrArg nI h18))) | exact Or.inr (Or.inr (Or.inr h28))))), rfl⟩
    · obtain ⟨k_7, hk_8, rfl⟩ := nat_lt1 (N := n) h13.1 h13.2 (by omega)
      refine s_iload_n B dX9_meet_16 rfl 1 rfl ?_
      refine s_iload_n B dX9_meet_17 rfl 2 rfl ?_
      refine s_icmp_eq (tgt := 31) B dX9_meet_18 rfl (fun h18 => ?_) (fun h18 => ?_)
      · replace h18 : k_3 = k_7 := (nI_eq (a := k_3) (b := k_7) (by omega) (by omega)).mp h18
        refine s_iconst B dX9_meet_31 ic_m1 ?_
        refine s_iret B hQ hr dX9_meet_32 rfl ?_
        exact ⟨a_row, ok_a_row, rfl, (fun j hj => rfl), (fun G cr9 tr9 H => (H.meet_no (by first | exact Or.inl h5 | exact Or.inr (Or.inl h13) | exact Or.inr (Or.inr (Or.inl (congrArg nI h18))) | exact Or.inr (Or.inr (Or.inr h28))))), rfl⟩
      · replace h18 : ¬ k_3 = k_7 := fun hh => h18 ((nI_eq (a := k_3) (b := k_7) (by omega) (by omega)).mpr hh)
        refine s_iload_n B dX9_meet_21 rfl 3 rfl ?_
        refine s_iconst B dX9_meet_22 ic_0 ?_
        refine s_bipush B dX9_meet_23 bp_20 ?_
        refine s_callSi B hsc (c_X9_in l D g n0 0 20) (gw_S ml_X9_87 sm_yX9_in ini_RX9 co_yX9_in) hd_X9_in rfl rfl ⟨(Nat.le_of_ble_eq_true rfl), (Nat.le_of_ble_eq_true rfl)⟩ [] [0, 1, 2, 3, 4] rfl rfl rfl rfl rfl (Nat.le_of_ble_eq_true rfl) dX9_meet_25 (fun r_9 u_10 hpo => ?_)
        obtain ⟨rfl, rfl⟩ := hpo
        refine s_st (st' := [.int (if ¬ n0 < 0 ∧ ¬ 20 < n0 then 1 else 0)]) rfl ?_
        refine s_ws (ws' := [(b 0, .inr (9, [.int (nI n), .ref (b 1), .ref (b 2), .int (nI 0), .ref (b 3), .ref (b 4), .ref (b 5), .ref (b 6), .ref (b 7), .ref (b 8), .int (I 10), .ref (b 9), .int (nI t), .int (I 13), .int (I 14), .int (I 15), .long W, .int (I 17), .int (I 18), .int (I 19), .int (I 20), .ref (b 10), .ref (b 11), .ref (b 12), .ref (b 13), .ref (b 14), .ref (b 15), .int (nI q), .int (nI mm), .ref (b 16), .ref (b 17), .ref (b 18), .ref (b 19), .ref (b 20), .ref (b 21), .int (I 35), .int (I 36), .int (I 37), .ref (b 22), .int (nI bd), .int (I 40), .int (I 41), .ref (b 23), .int (I 43), .ref (b 24)])), (b 1, .inl (g 0, 32, .inl a_child)), (b 2, .inl (g 0, 50, .inl a_row)), (b 3, .inl (g 0, 40, .inl a_events)), (b 6, .inl (g 0, 4, .inl a_laws))]) rfl ?_
        refine s_bif_ne (tgt := 33) B dX9_meet_28 rfl (fun h28 => ?_) (fun h28 => ?_)
        · obtain ⟨k_11, hk_12, rfl⟩ := nat_le (N := 20) h28.1 h28.2 (by decide)
          have L43 : ∀ (jj43 : Nat) (v_19 : Int32) (k_20 : Nat) (a_row_22 : Nat → Int32), 40 - k_20 < jj43 → (¬ (nI k_3) < 0 ∧ ¬ nI n - 1 < (nI k_3)) → (k_3 < n) → (¬ (nI k_7) < 0 ∧ ¬ nI n - 1 < (nI k_7)) → (k_7 < n) → (¬ k_3 = k_7) → (¬ (nI k_11) < 0 ∧ ¬ 20 < (nI k_11)) → (k_11 ≤ 20) → (k_20 ≤ 40) → (RowOk a_row_22) → (a_row_22 0 = a_row 0) → (∀ j : Nat, j < 25 → a_row_22 j = a_row j) → (k_20 ≤ k_11) → (∀ d : Nat, d ≤ 40 → a_row 0 = nI d → NNr a_row a_laws n 0 → (GoB a_child a_row_22 a_events a_laws n 25 d k_20 (s3R a_row 0) ∧ d + k_20 ≤ 40) ∧ v_19 = nI (mCt (fun i => bt (bDI a_child a_events a_laws n d (s3R a_row 0) i) k_3 && bt (bDI a_child a_events a_laws n d (s3R a_row 0) i) k_7) k_20)) → Sx p l e rmX9_meet s m args below meth c D vwCl A 7 Q 43 [(0, .ref (b 0)), (1, .int (nI k_3)), (2, .int (nI k_7)), (3, .int (nI k_11)), (4, .int v_19), (5, .int (nI k_20))] [] [(b 0, .inr (9, [.int (nI n), .ref (b 1), .ref (b 2), .int (nI 25), .ref (b 3), .ref (b 4), .ref (b 5), .ref (b 6), .ref (b 7), .ref (b 8), .int (I 10), .ref (b 9), .int (nI t), .int (I 13), .int (I 14), .int (I 15), .long W, .int (I 17), .int (I 18), .int (I 19), .int (I 20), .ref (b 10), .ref (b 11), .ref (b 12), .ref (b 13), .ref (b 14), .ref (b 15), .int (nI q), .int (nI mm), .ref (b 16), .ref (b 17), .ref (b 18), .ref (b 19), .ref (b 20), .ref (b 21), .int (I 35), .int (I 36), .int (I 37), .ref (b 22), .int (nI bd), .int (I 40), .int (I 41), .ref (b 23), .int (I 43), .ref (b 24)])), (b 1, .inl (g 0, 32, .inl a_child)), (b 2, .inl (g 0, 50, .inl a_row_22)), (b 3, .inl (g 0, 40, .inl a_events)), (b 6, .inl (g 0, 4, .inl a_laws))] := by
            intro jj43
            induction jj43 with
            | zero => intro v_19 k_20 a_row_22 hj; exact absurd hj (Nat.not_lt_zero _)
            | succ jj43 ih43 =>
              intro v_19 k_20 a_row_22 hj43 h5 hk_4 h13 hk_8 h18 h28 hk_12 h_21 ok_a_row_22 hz_23 hy_24 hj_25 hQ_26
              refine s_iload B dX9_meet_43 5 rfl ?_
              refine s_iload_n B dX9_meet_45 rfl 3 rfl ?_
              refine s_icmp_ge (tgt := 91) B dX9_meet_46 rfl (fun h46 => ?_) (fun h46 => ?_)
              · replace h46 : k_11 ≤ k_20 := (nI_leI (a := k_11) (b := k_20) (by omega) (by omega)).mp h46
                refine s_aload_n B dX9_meet_91 rfl 0 rfl ?_
                refine s_iconst B dX9_meet_92 ic_0 ?_
                refine s_put (T := TX9) (ws' := [_, _, _, _, _]) B inX9 tyX9_ok nmX9 0 rfl rfl 3 (Nat.le_of_ble_eq_true rfl) fl_X9_222 rfl rfl rfl rfl (Nat.le_of_ble_eq_true rfl) rfl dX9_meet_93 ?_
                refine s_iload B dX9_meet_96 4 rfl ?_
                refine s_iret B hQ hr dX9_meet_98 rfl ?_
                exact ⟨a_row_22, ok_a_row_22, (hz_23.trans rfl), (fun j hj => ((hy_24 j hj).trans rfl)), (fun G cr9 tr9 H => (H.meet_ok (by omega) (by omega) h18 (by omega) (go_bk (j := 0) (hQ_26 (gTd G) H.td.2 H.td.1 H.nn).1 (by omega) (Or.inl (by omega))) (hQ_26 (gTd G) H.td.2 H.td.1 H.nn).2)), rfl⟩
              · replace h46 : ¬ k_11 ≤ k_20 := fun hh => h46 ((nI_leI (a := k_11) (b := k_20) (by omega) (by omega)).mpr hh)
                refine s_aload_n B dX9_meet_49 rfl 0 rfl ?_
                refine s_get (T := TX9) B inX9 0 rfl rfl 2 (Nat.le_of_ble_eq_true rfl) fl_X9_13 rfl rfl dX9_meet_50 ?_
                refine s_aload_n B dX9_meet_53 rfl 0 rfl ?_
                refine s_get (T := TX9) B inX9 0 rfl rfl 3 (Nat.le_of_ble_eq_true rfl) fl_X9_222 rfl rfl dX9_meet_54 ?_
                refine s_ialdN B 2 0 rfl rfl dX9_meet_57 (by omega) (by decide) ?_
                obtain ⟨d_27, hd_28, hr__29⟩ : le40 (a_row_22 25) := RowOk.at ok_a_row_22 (by omega)
                refine s_st (st' := [.int (nI d_27)]) (by rw [hr__29]) ?_
                refine s_bipush B dX9_meet_58 bp_40 ?_
                refine s_icmp_ge (tgt := 91) B dX9_meet_60 rfl (fun h60 => ?_) (fun h60 => ?_)
                · replace h60 : 40 ≤ d_27 := (nI_leI (a := 40) (b := d_27) (by omega) (by omega)).mp h60
                  refine s_aload_n B dX9_meet_91 rfl 0 rfl ?_
                  refine s_iconst B dX9_meet_92 ic_0 ?_
                  refine s_put (T := TX9) (ws' := [_, _, _, _, _]) B inX9 tyX9_ok nmX9 0 rfl rfl 3 (Nat.le_of_ble_eq_true rfl) fl_X9_222 rfl rfl rfl rfl (Nat.le_of_ble_eq_true rfl) rfl dX9_meet_93 ?_
                  refine s_iload B dX9_meet_96 4 rfl ?_
                  refine s_iret B hQ hr dX9_meet_98 rfl ?_
                  exact ⟨a_row_22, ok_a_row_22, (hz_23.trans rfl), (fun j hj => ((hy_24 j hj).trans rfl)), (fun G cr9 tr9 H => (H.meet_ok (by omega) (by omega) h18 (by omega) (go_bk (hQ_26 (gTd G) H.td.2 H.td.1 H.nn).1 (by omega) (Or.inr ⟨hr__29, by omega, by omega⟩)) (hQ_26 (gTd G) H.td.2 H.td.1 H.nn).2)), rfl⟩
                · replace h60 : ¬ 40 ≤ d_27 := fun hh => h60 ((nI_leI (a := 40) (b := d_27) (by omega) (by omega)).mpr hh)
                  refine s_aload_n B dX9_meet_63 rfl 0 rfl ?_
                  refine s_callVi B hsc (c_X9_dayGoes l D g b I W n 25 t q mm bd a_child a_row_22 a_events a_laws (by omega) (by omega) (by omega) (by omega) (by omega) (by omega) ok_a_row_22 (by first | assumption | decide | (intro h9; first | assumption | exact absurd h9 (by decide)) | omega | rfl | (refine ⟨_, ?_, by assumption⟩; omega) | (clear hQ B hr hsc; grind))) (gw_V ml_X9_238 im_yX9_dayGoes se_yX9_dayGoes ini_RX9 co_yX9_dayGoes) hd_X9_dayGoes rfl rfl ⟨(Nat.le_of_ble_eq_true rfl), (Nat.le_of_ble_eq_true rfl)⟩ [0, 1, 2, 3, 4] [0, 1, 2, 3, 4] rfl rfl rfl (ci := 9) (q0 := 0) rfl rfl rfl rfl rfl (Nat.le_of_ble_eq_true rfl) dX9_meet_64 (fun r_30 u_31 hpo => ?_)
                  obtain ⟨a_row_32, ok_a_row_32, hf_33, hf_34, hf_35, hf_36, rfl⟩ := hpo
                  refine s_ws (ws' := [(b 0, .inr (9, [.int (nI n), .ref (b 1), .ref (b 2), .int (nI 25), .ref (b 3), .ref (b 4), .ref (b 5), .ref (b 6), .ref (b 7), .ref (b 8), .int (I 10), .ref (b 9), .int (nI t), .int (I 13), .int (I 14), .int (I 15), .long W, .int (I 17), .int (I 18), .int (I 19), .int (I 20), .ref (b 10), .ref (b 11), .ref (b 12), .ref (b 13), .ref (b 14), .ref (b 15), .int (nI q), .int (nI mm), .ref (b 16), .ref (b 17), .ref (b 18), .ref (b 19), .ref (b 20), .ref (b 21), .int (I 35), .int (I 36), .int (I 37), .ref (b 22), .int (nI bd), .int (I 40), .int (I 41), .ref (b 23), .int (I 43), .ref (b 24)])), (b 1, .inl (g 0, 32, .inl a_child)), (b 2, .inl (g 0, 50, .inl a_row_32)), (b 3, .inl (g 0, 40, .inl a_events)), (b 6, .inl (g 0, 4, .inl a_laws))]) rfl ?_
                  refine s_istore (lv' := [(6, _), (0, _), (1, _), (2, _), (3, _), (4, _), (5, _)]) B dX9_meet_67 (Nat.le_of_ble_eq_true rfl) rfl ?_
                  refine s_iload B dX9_meet_69 5 rfl ?_
                  refine s_iload B dX9_meet_71 0 rfl ?_
                  refine s_iload_n B dX9_meet_73 rfl 2 rfl ?_
                  refine s_ishr B dX9_meet_74 ?_
                  refine s_iload B dX9_meet_75 0 rfl ?_
                  refine s_iload_n B dX9_meet_77 rfl 3 rfl ?_
                  refine s_ishr B dX9_meet_78 ?_
                  refine s_iand B dX9_meet_79 ?_
                  refine s_iconst B dX9_meet_80 ic_1 ?_
                  refine s_iand B dX9_meet_81 ?_
                  refine s_iadd B dX9_meet_82 ?_
                  refine s_istore (lv' := [(4, _), (6, _), (0, _), (1, _), (2, _), (3, _), (5, _)]) B dX9_meet_83 (Nat.le_of_ble_eq_true rfl) rfl ?_
                  refine s_iinc (lv' := [(5, _), (4, _), (6, _), (0, _), (1, _), (2, _), (3, _)]) (k := 6) B dX9_meet_85 rfl (ii_n _) (Nat.le_of_ble_eq_true rfl) rfl ?_
                  refine s_goto (tgt := 43) B dX9_meet_88 rfl ?_
                  refine s_lv (lv' := [(0, _), (1, _), (2, _), (3, _), (4, _), (5, _)]) [3, 4, 5, 6, 1, 0] rfl ?_
                  exact ih43 (v_19 + (((r_30 >>> ((nI k_3) &&& 31)) &&& (r_30 >>> ((nI k_7) &&& 31))) &&& 1)) (k_20 + 1) a_row_32 (by omega) h5 hk_4 h13 hk_8 h18 h28 hk_12 (by omega) ok_a_row_32 ((hf_34 rfl).trans (hz_23.trans rfl)) (fun j hj => ((hf_36 rfl j hj).trans ((hy_24 j hj).trans rfl))) (by omega) (fun d hd h nn => go_meet hn (by omega) (by omega) (hQ_26 d hd h nn) hr__29 (by omega) (by assumption) hf_35)
          refine s_aload_n B dX9_meet_33 rfl 0 rfl ?_
          refine s_callVv B hsc (c_X9_lends l D g b I W n 0 t q mm bd a_row (by omega) (by omega) (by omega) (by omega) (by omega) (by omega) ok_a_row) (gw_V ml_X9_247 im_yX9_lends se_yX9_lends ini_RX9 co_yX9_lends) hd_X9_lends rfl rfl ⟨(Nat.le_of_ble_eq_true rfl), (Nat.le_of_ble_eq_true rfl)⟩ [0, 2] [0, 1, 2, 3, 4] rfl rfl rfl (ci := 9) (q0 := 0) rfl rfl rfl rfl rfl (Nat.le_of_ble_eq_true rfl) dX9_meet_34 (fun u_14 hpo => ?_)
          obtain ⟨a_row_15, ok_a_row_15, hf_16, hf_17, hf_18, rfl⟩ := hpo
          refine s_ws (ws' := [(b 0, .inr (9, [.int (nI n), .ref (b 1), .ref (b 2), .int (nI 25), .ref (b 3), .ref (b 4), .ref (b 5), .ref (b 6), .ref (b 7), .ref (b 8), .int (I 10), .ref (b 9), .int (nI t), .int (I 13), .int (I 14), .int (I 15), .long W, .int (I 17), .int (I 18), .int (I 19), .int (I 20), .ref (b 10), .ref (b 11), .ref (b 12), .ref (b 13), .ref (b 14), .ref (b 15), .int (nI q), .int (nI mm), .ref (b 16), .ref (b 17), .ref (b 18), .ref (b 19), .ref (b 20), .ref (b 21), .int (I 35), .int (I 36), .int (I 37), .ref (b 22), .int (nI bd), .int (I 40), .int (I 41), .ref (b 23), .int (I 43), .ref (b 24)])), (b 1, .inl (g 0, 32, .inl a_child)), (b 2, .inl (g 0, 50, .inl a_row_15)), (b 3, .inl (g 0, 40, .inl a_events)), (b 6, .inl (g 0, 4, .inl a_laws))]) rfl ?_
          refine s_iconst B dX9_meet_37 ic_0 ?_
          refine s_istore (lv' := [(4, _), (0, _), (1, _), (2, _), (3, _)]) B dX9_meet_38 (Nat.le_of_ble_eq_true rfl) rfl ?_
          refine s_iconst B dX9_meet_40 ic_0 ?_
          refine s_istore (lv' := [(5, _), (4, _), (0, _), (1, _), (2, _), (3, _)]) B dX9_meet_41 (Nat.le_of_ble_eq_true rfl) rfl ?_
          refine s_lv (lv' := [(0, _), (1, _), (2, _), (3, _), (4, _), (5, _)]) [2, 3, 4, 5, 1, 0] rfl ?_
          refine s_lve (lv' := [(0, .ref (b 0)), (1, .int (nI k_3)), (2, .int (nI k_7)), (3, .int (nI k_11)), (4, .int 0), (5, .int (nI 0))]) (by first | rfl | (simp only [if_pos, if_neg]; done)) ?_
          exact L43 _ 0 0 a_row_15 (Nat.lt_succ_self _) h5 hk_4 h13 hk_8 h18 h28 hk_12 (by omega) ok_a_row_15 (hf_16.trans rfl) (fun j hj => ((hf_17 j hj).trans rfl)) (by omega) (fun d hd h nn => ⟨⟨GoB_0 hn hf_18 h nn, by omega⟩, rfl⟩)
        · refine s_iconst B dX9_meet_31 ic_m1 ?_
          refine s_iret B hQ hr dX9_meet_32 rfl ?_
          exact ⟨a_row, ok_a_row, rfl, (fun j hj => rfl), (fun G cr9 tr9 H => (H.meet_no (by first | exact Or.inl h5 | exact Or.inr (Or.inl h13) | exact Or.inr (Or.inr (Or.inl (congrArg nI h18))) | exact Or.inr (Or.inr (Or.inr h28))))), rfl⟩
def rmX9_least : Room := { frames := 5, cells := 0, slots := 0, locals := 119 }
theorem hd_X9_least : yX9_least.cls = RX9 ∧ yX9_least.cls ≠ "java/lang/invoke/MethodHandle" ∧ yX9_least.cls ≠ "java/lang/invoke/VarHandle" ∧ (parseMethodDescriptor yX9_least.desc).map (fun d => d.parameters.length) = some 1 := by decide +kernel
set_option maxHeartbeats 4000000 in
set_option maxRecDepth 100000 in
theorem c_X9_least (l : Launch) (D : va_G) (g : Nat → ClassId) (b : Nat → Nat) (I : Nat → Int32) (W : Int64) (n p0 t q mm bd : Nat) (a_child : Nat → Int32) (a_row : Nat → Int32) (a_events : Nat → Int32) (a_laws : Nat → Int32) (n0 : Int32) (hn : n ≤ 8) (hp : p0 = 0 ∨ p0 = 25) (ht : t ≤ 240) (hq0 : q ≤ 20) (hmm : mm ≤ 20) (hbd : bd ≤ 30) (ok_a_row : RowOk a_row) : Ci l yX9_least (WW yX9_least cX9_least 6 (some FieldType.int)) rmX9_least D vwCl (TY g) [.ref (b 0), .int n0] [(b 0, .inr (9, [.int (nI n), .ref (b 1), .ref (b 2), .int (nI 0), .ref (b 3), .ref (b 4), .ref (b 5), .ref (b 6), .ref (b 7), .ref (b 8), .int (I 10), .ref (b 9), .int (nI t), .int (I 13), .int (I 14), .int (I 15), .long W, .int (I 17), .int (I 18), .int (I 19), .int (I 20), .ref (b 10), .ref (b 11), .ref (b 12), .ref (b 13), .ref (b 14), .ref (b 15), .int (nI q), .int (nI mm), .ref (b 16), .ref (b 17), .ref (b 18), .ref (b 19), .ref (b 20), .ref (b 21), .int (I 35), .int (I 36), .int (I 37), .ref (b 22), .int (nI bd), .int (I 40), .int (I 41), .ref (b 23), .int (I 43), .ref (b 24)])), (b 1, .inl (g 0, 32, .inl a_child)), (b 2, .inl (g 0, 50, .inl a_row)), (b 3, .inl (g 0, 40, .inl a_events)), (b 6, .inl (g 0, 4, .inl a_laws))] (fun r u => ∃ (a_row' : Nat → Int32), (RowOk a_row') ∧ (a_row' 0 = a_row 0) ∧ (∀ j : Nat, j < 25 → a_row' j = a_row j) ∧ (∀ (G : MG) (cr9 tr9 : MA), RG G n a_child a_row a_events cr9 tr9 a_laws (I 10) → r = aLeast n0 G) ∧ u = [(b 0, .inr (9, [.int (nI n), .ref (b 1), .ref (b 2), .int (nI 0), .ref (b 3), .ref (b 4), .ref (b 5), .ref (b 6), .ref (b 7), .ref (b 8), .int (I 10), .ref (b 9), .int (nI t), .int (I 13), .int (I 14), .int (I 15), .long W, .int (I 17), .int (I 18), .int (I 19), .int (I 20), .ref (b 10), .ref (b 11), .ref (b 12), .ref (b 13), .ref (b 14), .ref (b 15), .int (nI q), .int (nI mm), .ref (b 16), .ref (b 17), .ref (b 18), .ref (b 19), .ref (b 20), .ref (b 21), .int (I 35), .int (I 36), .int (I 37), .ref (b 22), .int (nI bd), .int (I 40), .int (I 41), .ref (b 23), .int (I 43), .ref (b 24)])), (b 1, .inl (g 0, 32, .inl a_child)), (b 2, .inl (g 0, 50, .inl a_row')), (b 3, .inl (g 0, 40, .inl a_events)), (b 6, .inl (g 0, 4, .inl a_laws))]) := by
  refine ci_in (by decide) (Nat.le_of_ble_eq_true rfl) (a0 := [b 0, b 1, b 2, b 3, b 6]) rfl (fun p e s m args below meth c A Q hQ B hr hsc => ?_)
  refine s_iload_n B dX9_least_0 rfl 1 rfl ?_
  refine s_iconst B dX9_least_1 ic_1 ?_
  refine s_bipush B dX9_least_2 bp_20 ?_
  refine s_callSi B hsc (c_X9_in l D g n0 1 20) (gw_S ml_X9_87 sm_yX9_in ini_RX9 co_yX9_in) hd_X9_in rfl rfl ⟨(Nat.le_of_ble_eq_true rfl), (Nat.le_of_ble_eq_true rfl)⟩ [] [0, 1, 2, 3, 4] rfl rfl rfl rfl rfl (Nat.le_of_ble_eq_true rfl) dX9_least_4 (fun r_1 u_2 hpo => ?_)
  obtain ⟨rfl, rfl⟩ := hpo
  refine s_st (st' := [.int (if ¬ n0 < 1 ∧ ¬ 20 < n0 then 1 else 0)]) rfl ?_
  refine s_ws (ws' := [(b 0, .inr (9, [.int (nI n), .ref (b 1), .ref (b 2), .int (nI 0), .ref (b 3), .ref (b 4), .ref (b 5), .ref (b 6), .ref (b 7), .ref (b 8), .int (I 10), .ref (b 9), .int (nI t), .int (I 13), .int (I 14), .int (I 15), .long W, .int (I 17), .int (I 18), .int (I 19), .int (I 20), .ref (b 10), .ref (b 11), .ref (b 12), .ref (b 13), .ref (b 14), .ref (b 15), .int (nI q), .int (nI mm), .ref (b 16), .ref (b 17), .ref (b 18), .ref (b 19), .ref (b 20), .ref (b 21), .int (I 35), .int (I 36), .int (I 37), .ref (b 22), .int (nI bd), .int (I 40), .int (I 41), .ref (b 23), .int (I 43), .ref (b 24)])), (b 1, .inl (g 0, 32, .inl a_child)), (b 2, .inl (g 0, 50, .inl a_row)), (b 3, .inl (g 0, 40, .inl a_events)), (b 6, .inl (g 0, 4, .inl a_laws))]) rfl ?_
  refine s_bif_ne (tgt := 12) B dX9_least_7 rfl (fun h7 => ?_) (fun h7 => ?_)
  · obtain ⟨k_3, hk_4, rfl⟩ := nat_le1 (N := 20) h7.1 h7.2 (by decide)
    have L38 : ∀ (jj38 : Nat) (v_14 : Int32) (v_15 : Int32) (k_16 : Nat) (a_row_18 : Nat → Int32), 40 - k_16 < jj38 → (¬ (nI k_3) < 1 ∧ ¬ 20 < (nI k_3)) → (1 ≤ k_3 ∧ k_3 ≤ 20) → (k_16 ≤ 40) → (RowOk a_row_18) → (a_row_18 0 = a_row 0) → (∀ j : Nat, j < 25 → a_row_18 j = a_row j) → (k_16 ≤ k_3) → (∀ d : Nat, d ≤ 40 → a_row 0 = nI d → NNr a_row a_laws n 0 → (GoB a_child a_row_18 a_events a_laws n 25 d k_16 (s3R a_row 0) ∧ d + k_16 ≤ 40) ∧ (v_14, v_15) = LeR (fun i => mPop (bDI a_child a_events a_laws n d (s3R a_row 0) i)) d k_16) → Sx p l e rmX9_least s m args below meth c D vwCl A 6 Q 38 [(0, .ref (b 0)), (1, .int (nI k_3)), (2, .int v_14), (3, .int v_15), (4, .int (nI k_16))] [] [(b 0, .inr (9, [.int (nI n), .ref (b 1), .ref (b 2), .int (nI 25), .ref (b 3), .ref (b 4), .ref (b 5), .ref (b 6), .ref (b 7), .ref (b 8), .int (I 10), .ref (b 9), .int (nI t), .int (I 13), .int (I 14), .int (I 15), .long W, .int (I 17), .int (I 18), .int (I 19), .int (I 20), .ref (b 10), .ref (b 11), .ref (b 12), .ref (b 13), .ref (b 14), .ref (b 15), .int (nI q), .int (nI mm), .ref (b 16), .ref (b 17), .ref (b 18), .ref (b 19), .ref (b 20), .ref (b 21), .int (I 35), .int (I 36), .int (I 37), .ref (b 22), .int (nI bd), .int (I 40), .int (I 41), .ref (b 23), .int (I 43), .ref (b 24)])), (b 1, .inl (g 0, 32, .inl a_child)), (b 2, .inl (g 0, 50, .inl a_row_18)), (b 3, .inl (g 0, 40, .inl a_events)), (b 6, .inl (g 0, 4, .inl a_laws))] := by
      intro jj38
      induction jj38 with
      | zero => intro v_14 v_15 k_16 a_row_18 hj; exact absurd hj (Nat.not_lt_zero _)
      | succ jj38 ih38 =>
        intro v_14 v_15 k_16 a_row_18 hj38 h7 hk_4 h_17 ok_a_row_18 hz_19 hy_20 hj_22 hQ_21
        have M92 : ∀ (v_48 : Int32) (v_49 : Int32) (a_row_50 : Nat → Int32), (¬ (nI k_3) < 1 ∧ ¬ 20 < (nI k_3)) → (1 ≤ k_3 ∧ k_3 ≤ 20) → (k_16 ≤ 40) → (RowOk a_row_18) → (a_row_18 0 = a_row 0) → (∀ j : Nat, j < 25 → a_row_18 j = a_row j) → (k_16 ≤ k_3) → (∀ d : Nat, d ≤ 40 → a_row 0 = nI d → NNr a_row a_laws n 0 → (GoB a_child a_row_18 a_events a_laws n 25 d k_16 (s3R a_row 0) ∧ d + k_16 ≤ 40) ∧ (v_14, v_15) = LeR (fun i => mPop (bDI a_child a_events a_laws n d (s3R a_row 0) i)) d k_16) → (¬ k_3 ≤ k_16) → (RowOk a_row_50) → (a_row_50 0 = a_row 0) → (∀ j : Nat, j < 25 → a_row_50 j = a_row j) → (k_16 < 20) → (∀ d : Nat, d ≤ 40 → a_row 0 = nI d → NNr a_row a_laws n 0 → (GoB a_child a_row_50 a_events a_laws n 25 d (k_16 + 1) (s3R a_row 0) ∧ d + (k_16 + 1) ≤ 40) ∧ (v_48, v_49) = LeR (fun i => mPop (bDI a_child a_events a_laws n d (s3R a_row 0) i)) d (k_16 + 1)) → Sx p l e rmX9_least s m args below meth c D vwCl A 6 Q 92 [(0, .ref (b 0)), (1, .int (nI k_3)), (2, .int v_48), (3, .int v_49), (4, .int (nI k_16))] [] [(b 0, .inr (9, [.int (nI n), .ref (b 1), .ref (b 2), .int (nI 25), .ref (b 3), .ref (b 4), .ref (b 5), .ref (b 6), .ref (b 7), .ref (b 8), .int (I 10), .ref (b 9), .int (nI t), .int (I 13), .int (I 14), .int (I 15), .long W, .int (I 17), .int (I 18), .int (I 19), .int (I 20), .ref (b 10), .ref (b 11), .ref (b 12), .ref (b 13), .ref (b 14), .ref (b 15), .int (nI q), .int (nI mm), .ref (b 16), .ref (b 17), .ref (b 18), .ref (b 19), .ref (b 20), .ref (b 21), .int (I 35), .int (I 36), .int (I 37), .ref (b 22), .int (nI bd), .int (I 40), .int (I 41), .ref (b 23), .int (I 43), .ref (b 24)])), (b 1, .inl (g 0, 32, .inl a_child)), (b 2, .inl (g 0, 50, .inl a_row_50)), (b 3, .inl (g 0, 40, .inl a_events)), (b 6, .inl (g 0, 4, .inl a_laws))] := by
          intro v_48 v_49 a_row_50 h7 hk_4 h_17 ok_a_row_18 hz_19 hy_20 hj_22 hQ_21 h41 ok_a_row_50 hz_51 hy_52 hj_53 hQ_54
          refine s_iinc (lv' := [(4, _), (0, _), (1, _), (2, _), (3, _)]) (k := 4) B dX9_least_92 rfl (ii_n _) (Nat.le_of_ble_eq_true rfl) rfl ?_
          refine s_goto (tgt := 38) B dX9_least_95 rfl ?_
          refine s_lv (lv' := [(0, _), (1, _), (2, _), (3, _), (4, _)]) [1, 2, 3, 4, 0] rfl ?_
          exact ih38 v_48 v_49 (k_16 + 1) a_row_50 (by omega) h7 hk_4 (by omega) ok_a_row_50 (hz_51.trans rfl) (fun j hj => ((hy_52 j hj).trans rfl)) (by omega) hQ_54
        have M77 : ∀ (v_39 : Int32) (a_row_40 : Nat → Int32), (¬ (nI k_3) < 1 ∧ ¬ 20 < (nI k_3)) → (1 ≤ k_3 ∧ k_3 ≤ 20) → (k_16 ≤ 40) → (RowOk a_row_18) → (a_row_18 0 = a_row 0) → (∀ j : Nat, j < 25 → a_row_18 j = a_row j) → (k_16 ≤ k_3) → (∀ d : Nat, d ≤ 40 → a_row 0 = nI d → NNr a_row a_laws n 0 → (GoB a_child a_row_18 a_events a_laws n 25 d k_16 (s3R a_row 0) ∧ d + k_16 ≤ 40) ∧ (v_14, v_15) = LeR (fun i => mPop (bDI a_child a_events a_laws n d (s3R a_row 0) i)) d k_16) → (¬ k_3 ≤ k_16) → (RowOk a_row_40) → (a_row_40 0 = a_row 0) → (∀ j : Nat, j < 25 → a_row_40 j = a_row j) → (k_16 < 20) → (∀ d : Nat, d ≤ 40 → a_row 0 = nI d → NNr a_row a_laws n 0 → (GoB a_child a_row_40 a_events a_laws n 25 d (k_16 + 1) (s3R a_row 0) ∧ d + (k_16 + 1) ≤ 40) ∧ (nI (d + (k_16 + 1)) - 1, v_39) = LeR (fun i => mPop (bDI a_child a_events a_laws n d (s3R a_row 0) i)) d (k_16 + 1)) → Sx p l e rmX9_least s m args below meth c D vwCl A 6 Q 77 [(0, .ref (b 0)), (1, .int (nI k_3)), (4, .int (nI k_16)), (5, .int v_39)] [] [(b 0, .inr (9, [.int (nI n), .ref (b 1), .ref (b 2), .int (nI 25), .ref (b 3), .ref (b 4), .ref (b 5), .ref (b 6), .ref (b 7), .ref (b 8), .int (I 10), .ref (b 9), .int (nI t), .int (I 13), .int (I 14), .int (I 15), .long W, .int (I 17), .int (I 18), .int (I 19), .int (I 20), .ref (b 10), .ref (b 11), .ref (b 12), .ref (b 13), .ref (b 14), .ref (b 15), .int (nI q), .int (nI mm), .ref (b 16), .ref (b 17), .ref (b 18), .ref (b 19), .ref (b 20), .ref (b 21), .int (I 35), .int (I 36), .int (I 37), .ref (b 22), .int (nI bd), .int (I 40), .int (I 41), .ref (b 23), .int (I 43), .ref (b 24)])), (b 1, .inl (g 0, 32, .inl a_child)), (b 2, .inl (g 0, 50, .inl a_row_40)), (b 3, .inl (g 0, 40, .inl a_events)), (b 6, .inl (g 0, 4, .inl a_laws))] := by
          intro v_39 a_row_40 h7 hk_4 h_17 ok_a_row_18 hz_19 hy_20 hj_22 hQ_21 h41 ok_a_row_40 hz_41 hy_42 hj_43 hQ_44
          refine s_aload_n B dX9_least_77 rfl 0 rfl ?_
          refine s_get (T := TX9) B inX9 0 rfl rfl 2 (Nat.le_of_ble_eq_true rfl) fl_X9_13 rfl rfl dX9_least_78 ?_
          refine s_aload_n B dX9_least_81 rfl 0 rfl ?_
          refine s_get (T := TX9) B inX9 0 rfl rfl 3 (Nat.le_of_ble_eq_true rfl) fl_X9_222 rfl rfl dX9_least_82 ?_
          refine s_ialdN B 2 0 rfl rfl dX9_least_85 (by omega) (by decide) ?_
          obtain ⟨d_45, hd_46, hr__47⟩ : le40 (a_row_40 25) := RowOk.at ok_a_row_40 (by omega)
          refine s_st (st' := [.int (nI d_45)]) (by rw [hr__47]) ?_
          refine s_iconst B dX9_least_86 ic_1 ?_
          refine s_isub B dX9_least_87 ?_
          refine s_istore_n (lv' := [(2, _), (0, _), (1, _), (4, _), (5, _)]) B dX9_least_88 rfl (Nat.le_of_ble_eq_true rfl) rfl ?_
          refine s_iload B dX9_least_89 4 rfl ?_
          refine s_istore_n (lv' := [(3, _), (2, _), (0, _), (1, _), (4, _), (5, _)]) B dX9_least_91 rfl (Nat.le_of_ble_eq_true rfl) rfl ?_
          refine s_lv (lv' := [(0, _), (1, _), (2, _), (3, _), (4, _)]) [2, 3, 1, 0, 4] rfl ?_
          exact M92 ((nI d_45) - 1) v_39 a_row_40 h7 hk_4 h_17 ok_a_row_18 hz_19 hy_20 hj_22 hQ_21 h41 ok_a_row_40 (hz_41.trans rfl) (fun j hj => ((hy_42 j hj).trans rfl)) (by omega) (fun d hd h nn => go_l77 (hQ_44 d hd h nn) hr__47)
        refine s_iload B dX9_least_38 4 rfl ?_
        refine s_iload_n B dX9_least_40 rfl 1 rfl ?_
        refine s_icmp_ge (tgt := 98) B dX9_least_41 rfl (fun h41 => ?_) (fun h41 => ?_)
        · replace h41 : k_3 ≤ k_16 := (nI_leI (a := k_3) (b := k_16) (by omega) (by omega)).mp h41
          refine s_aload_n B dX9_least_98 rfl 0 rfl ?_
          refine s_iconst B dX9_least_99 ic_0 ?_
          refine s_put (T := TX9) (ws' := [_, _, _, _, _]) B inX9 tyX9_ok nmX9 0 rfl rfl 3 (Nat.le_of_ble_eq_true rfl) fl_X9_222 rfl rfl rfl rfl (Nat.le_of_ble_eq_true rfl) rfl dX9_least_100 ?_
          refine s_iload_n B dX9_least_103 rfl 2 rfl ?_
          refine s_iret B hQ hr dX9_least_104 rfl ?_
          exact ⟨a_row_18, ok_a_row_18, (hz_19.trans rfl), (fun j hj => ((hy_20 j hj).trans rfl)), (fun G cr9 tr9 H => (H.least_ok (by omega) (by omega) (go_bk (j := 0) (hQ_21 (gTd G) H.td.2 H.td.1 H.nn).1 (by omega) (Or.inl (by omega))) (hQ_21 (gTd G) H.td.2 H.td.1 H.nn).2)), rfl⟩
        · replace h41 : ¬ k_3 ≤ k_16 := fun hh => h41 ((nI_leI (a := k_3) (b := k_16) (by omega) (by omega)).mpr hh)
          refine s_aload_n B dX9_least_44 rfl 0 rfl ?_
          refine s_get (T := TX9) B inX9 0 rfl rfl 2 (Nat.le_of_ble_eq_true rfl) fl_X9_13 rfl rfl dX9_least_45 ?_
          refine s_aload_n B dX9_least_48 rfl 0 rfl ?_
          refine s_get (T := TX9) B inX9 0 rfl rfl 3 (Nat.le_of_ble_eq_true rfl) fl_X9_222 rfl rfl dX9_least_49 ?_
          refine s_ialdN B 2 0 rfl rfl dX9_least_52 (by omega) (by decide) ?_
          obtain ⟨d_23, hd_24, hr__25⟩ : le40 (a_row_18 25) := RowOk.at ok_a_row_18 (by omega)
          refine s_st (st' := [.int (nI d_23)]) (by rw [hr__25]) ?_
          refine s_bipush B dX9_least_53 bp_40 ?_
          refine s_icmp_ge (tgt := 98) B dX9_least_55 rfl (fun h55 => ?_) (fun h55 => ?_)
          · replace h55 : 40 ≤ d_23 := (nI_leI (a := 40) (b := d_23) (by omega) (by omega)).mp h55
            refine s_aload_n B dX9_least_98 rfl 0 rfl ?_
            refine s_iconst B dX9_least_99 ic_0 ?_
            refine s_put (T := TX9) (ws' := [_, _, _, _, _]) B inX9 tyX9_ok nmX9 0 rfl rfl 3 (Nat.le_of_ble_eq_true rfl) fl_X9_222 rfl rfl rfl rfl (Nat.le_of_ble_eq_true rfl) rfl dX9_least_100 ?_
            refine s_iload_n B dX9_least_103 rfl 2 rfl ?_
            refine s_iret B hQ hr dX9_least_104 rfl ?_
            exact ⟨a_row_18, ok_a_row_18, (hz_19.trans rfl), (fun j hj => ((hy_20 j hj).trans rfl)), (fun G cr9 tr9 H => (H.least_ok (by omega) (by omega) (go_bk (hQ_21 (gTd G) H.td.2 H.td.1 H.nn).1 (by omega) (Or.inr ⟨hr__25, by omega, by omega⟩)) (hQ_21 (gTd G) H.td.2 H.td.1 H.nn).2)), rfl⟩
          · replace h55 : ¬ 40 ≤ d_23 := fun hh => h55 ((nI_leI (a := 40) (b := d_23) (by omega) (by omega)).mpr hh)
            refine s_aload_n B dX9_least_58 rfl 0 rfl ?_
            refine s_callVi B hsc (c_X9_dayGoes l D g b I W n 25 t q mm bd a_child a_row_18 a_events a_laws (by omega) (by omega) (by omega) (by omega) (by omega) (by omega) ok_a_row_18 (by first | assumption | decide | (intro h9; first | assumption | exact absurd h9 (by decide)) | omega | rfl | (refine ⟨_, ?_, by assumption⟩; omega) | (clear hQ B hr hsc; grind))) (gw_V ml_X9_238 im_yX9_dayGoes se_yX9_dayGoes ini_RX9 co_yX9_dayGoes) hd_X9_dayGoes rfl rfl ⟨(Nat.le_of_ble_eq_true rfl), (Nat.le_of_ble_eq_true rfl)⟩ [0, 1, 2, 3, 4] [0, 1, 2, 3, 4] rfl rfl rfl (ci := 9) (q0 := 0) rfl rfl rfl rfl rfl (Nat.le_of_ble_eq_true rfl) dX9_least_59 (fun r_26 u_27 hpo => ?_)
            obtain ⟨a_row_28, ok_a_row_28, hf_29, hf_30, hf_31, hf_32, rfl⟩ := hpo
            refine s_ws (ws' := [(b 0, .inr (9, [.int (nI n), .ref (b 1), .ref (b 2), .int (nI 25), .ref (b 3), .ref (b 4), .ref (b 5), .ref (b 6), .ref (b 7), .ref (b 8), .int (I 10), .ref (b 9), .int (nI t), .int (I 13), .int (I 14), .int (I 15), .long W, .int (I 17), .int (I 18), .int (I 19), .int (I 20), .ref (b 10), .ref (b 11), .ref (b 12), .ref (b 13), .ref (b 14), .ref (b 15), .int (nI q), .int (nI mm), .ref (b 16), .ref (b 17), .ref (b 18), .ref (b 19), .ref (b 20), .ref (b 21), .int (I 35), .int (I 36), .int (I 37), .ref (b 22), .int (nI bd), .int (I 40), .int (I 41), .ref (b 23), .int (I 43), .ref (b 24)])), (b 1, .inl (g 0, 32, .inl a_child)), (b 2, .inl (g 0, 50, .inl a_row_28)), (b 3, .inl (g 0, 40, .inl a_events)), (b 6, .inl (g 0, 4, .inl a_laws))]) rfl ?_
            refine s_callSi B hsc (c_X9_ones l D g r_26) (gw_S ml_X9_244 sm_yX9_ones ini_RX9 co_yX9_ones) hd_X9_ones rfl rfl ⟨(Nat.le_of_ble_eq_true rfl), (Nat.le_of_ble_eq_true rfl)⟩ [] [0, 1, 2, 3, 4] rfl rfl rfl rfl rfl (Nat.le_of_ble_eq_true rfl) dX9_least_62 (fun r_33 u_34 hpo => ?_)
            obtain ⟨⟨c_35, rfl, ho_36, ho_37, ho_38⟩, rfl⟩ := hpo
            refine s_ws (ws' := [(b 0, .inr (9, [.int (nI n), .ref (b 1), .ref (b 2), .int (nI 25), .ref (b 3), .ref (b 4), .ref (b 5), .ref (b 6), .ref (b 7), .ref (b 8), .int (I 10), .ref (b 9), .int (nI t), .int (I 13), .int (I 14), .int (I 15), .long W, .int (I 17), .int (I 18), .int (I 19), .int (I 20), .ref (b 10), .ref (b 11), .ref (b 12), .ref (b 13), .ref (b 14), .ref (b 15), .int (nI q), .int (nI mm), .ref (b 16), .ref (b 17), .ref (b 18), .ref (b 19), .ref (b 20), .ref (b 21), .int (I 35), .int (I 36), .int (I 37), .ref (b 22), .int (nI bd), .int (I 40), .int (I 41), .ref (b 23), .int (I 43), .ref (b 24)])), (b 1, .inl (g 0, 32, .inl a_child)), (b 2, .inl (g 0, 50, .inl a_row_28)), (b 3, .inl (g 0, 40, .inl a_events)), (b 6, .inl (g 0, 4, .inl a_laws))]) rfl ?_
            refine s_istore (lv' := [(5, _), (0, _), (1, _), (2, _), (3, _), (4, _)]) B dX9_least_65 (Nat.le_of_ble_eq_true rfl) rfl ?_
            refine s_iload_n B dX9_least_67 rfl 3 rfl ?_
            refine s_if_lt (tgt := 77) B dX9_least_68 rfl (fun h68 => ?_) (fun h68 => ?_)
            · refine s_lv (lv' := [(0, _), (1, _), (4, _), (5, _)]) [1, 2, 5, 0] rfl ?_
              exact M77 (nI c_35) a_row_28 h7 hk_4 h_17 ok_a_row_18 hz_19 hy_20 hj_22 hQ_21 h41 ok_a_row_28 ((hf_30 rfl).trans (hz_19.trans rfl)) (fun j hj => ((hf_32 rfl j hj).trans ((hy_20 j hj).trans rfl))) (by omega) (fun d hd h nn => go_ly hn (hQ_21 d hd h nn) hr__25 (by omega) (by assumption) hf_31 ho_38 (Or.inl h68))
            · refine s_iload B dX9_least_71 0 rfl ?_
              refine s_iload_n B dX9_least_73 rfl 4 rfl ?_
              refine s_icmp_ge (tgt := 92) B dX9_least_74 rfl (fun h74 => ?_) (fun h74 => ?_)
              · refine s_lv (lv' := [(0, _), (1, _), (2, _), (3, _), (4, _)]) [1, 2, 3, 4, 5] rfl ?_
                exact M92 v_14 v_15 a_row_28 h7 hk_4 h_17 ok_a_row_18 hz_19 hy_20 hj_22 hQ_21 h41 ok_a_row_28 ((hf_30 rfl).trans (hz_19.trans rfl)) (fun j hj => ((hf_32 rfl j hj).trans ((hy_20 j hj).trans rfl))) (by omega) (fun d hd h nn => go_ln hn (hQ_21 d hd h nn) hr__25 (by omega) (by assumption) hf_31 ho_38 (fun q => q.elim h68 (Int32.not_lt.mpr h74)))
              · refine s_lv (lv' := [(0, _), (1, _), (4, _), (5, _)]) [1, 2, 5, 0] rfl ?_
                exact M77 (nI c_35) a_row_28 h7 hk_4 h_17 ok_a_row_18 hz_19 hy_20 hj_22 hQ_21 h41 ok_a_row_28 ((hf_30 rfl).trans (hz_19.trans rfl)) (fun j hj => ((hf_32 rfl j hj).trans ((hy_20 j hj).trans rfl))) (by omega) (fun d hd h nn => go_ly hn (hQ_21 d hd h nn) hr__25 (by omega) (by assumption) hf_31 ho_38 (Or.inr (Int32.not_le.mp h74)))
    refine s_aload_n B dX9_least_12 rfl 0 rfl ?_
    refine s_get (T := TX9) B inX9 0 rfl rfl 2 (Nat.le_of_ble_eq_true rfl) fl_X9_13 rfl rfl dX9_least_13 ?_
    refine s_iconst B dX9_least_16 ic_0 ?_
    refine s_ialdN B 2 0 rfl rfl dX9_least_17 (by decide) (by decide) ?_
    obtain ⟨d_5, hd_6, hr__7⟩ : le40 (a_row 0) := RowOk.at ok_a_row (by omega)
    refine s_st (st' := [.int (nI d_5)]) (by rw [hr__7]) ?_
    refine s_bipush B dX9_least_18 bp_40 ?_
    refine s_icmp_ne (tgt := 26) B dX9_least_20 rfl (fun h20 => ?_) (fun h20 => ?_)
    · replace h20 : ¬ d_5 = 40 := fun hh => h20 ((nI_eq (a := d_5) (b := 40) (by omega) (by omega)).mpr hh)
      refine s_aload_n B dX9_least_26 rfl 0 rfl ?_
      refine s_callVv B hsc (c_X9_lends l D g b I W n 0 t q mm bd a_row (by omega) (by omega) (by omega) (by omega) (by omega) (by omega) ok_a_row) (gw_V ml_X9_247 im_yX9_lends se_yX9_lends ini_RX9 co_yX9_lends) hd_X9_lends rfl rfl ⟨(Nat.le_of_ble_eq_true rfl), (Nat.le_of_ble_eq_true rfl)⟩ [0, 2] [0, 1, 2, 3, 4] rfl rfl rfl (ci := 9) (q0 := 0) rfl rfl rfl rfl rfl (Nat.le_of_ble_eq_true rfl) dX9_least_27 (fun u_9 hpo => ?_)
      obtain ⟨a_row_10, ok_a_row_10, hf_11, hf_12, hf_13, rfl⟩ := hpo
      refine s_ws (ws' := [(b 0, .inr (9, [.int (nI n), .ref (b 1), .ref (b 2), .int (nI 25), .ref (b 3), .ref (b 4), .ref (b 5), .ref (b 6), .ref (b 7), .ref (b 8), .int (I 10), .ref (b 9), .int (nI t), .int (I 13), .int (I 14), .int (I 15), .long W, .int (I 17), .int (I 18), .int (I 19), .int (I 20), .ref (b 10), .ref (b 11), .ref (b 12), .ref (b 13), .ref (b 14), .ref (b 15), .int (nI q), .int (nI mm), .ref (b 16), .ref (b 17), .ref (b 18), .ref (b 19), .ref (b 20), .ref (b 21), .int (I 35), .int (I 36), .int (I 37), .ref (b 22), .int (nI bd), .int (I 40), .int (I 41), .ref (b 23), .int (I 43), .ref (b 24)])), (b 1, .inl (g 0, 32, .inl a_child)), (b 2, .inl (g 0, 50, .inl a_row_10)), (b 3, .inl (g 0, 40, .inl a_events)), (b 6, .inl (g 0, 4, .inl a_laws))]) rfl ?_
      refine s_bipush B dX9_least_30 bp_m3 ?_
      refine s_istore_n (lv' := [(2, _), (0, _), (1, _)]) B dX9_least_32 rfl (Nat.le_of_ble_eq_true rfl) rfl ?_
      refine s_iconst B dX9_least_33 ic_0 ?_
      refine s_istore_n (lv' := [(3, _), (2, _), (0, _), (1, _)]) B dX9_least_34 rfl (Nat.le_of_ble_eq_true rfl) rfl ?_
      refine s_iconst B dX9_least_35 ic_0 ?_
      refine s_istore (lv' := [(4, _), (3, _), (2, _), (0, _), (1, _)]) B dX9_least_36 (Nat.le_of_ble_eq_true rfl) rfl ?_
      refine s_lv (lv' := [(0, _), (1, _), (2, _), (3, _), (4, _)]) [3, 4, 2, 1, 0] rfl ?_
      refine s_lve (lv' := [(0, .ref (b 0)), (1, .int (nI k_3)), (2, .int (-3)), (3, .int 0), (4, .int (nI 0))]) (by first | rfl | (simp only [if_pos, if_neg]; done)) ?_
      exact L38 _ (-3) 0 0 a_row_10 (Nat.lt_succ_self _) h7 hk_4 (by omega) ok_a_row_10 (hf_11.trans rfl) (fun j hj => ((hf_12 j hj).trans rfl)) (by omega) (fun d hd h nn => ⟨⟨GoB_0 hn hf_13 h nn, by omega⟩, rfl⟩)
    · replace h20 : d_5 = 40 := (nI_eq (a := d_5) (b := 40) (by omega) (by omega)).mp h20
      refine s_bipush B dX9_least_23 bp_m3 ?_
      refine s_iret B hQ hr dX9_least_25 rfl ?_
      exact ⟨a_row, ok_a_row, rfl, (fun j hj => rfl), (fun G cr9 tr9 H => (H.least_st (by omega) (by omega) (hr__7.trans (congrArg nI h20)))), rfl⟩
  · refine s_iconst B dX9_least_10 ic_m1 ?_
    refine s_iret B hQ hr dX9_least_11 rfl ?_
    exact ⟨a_row, ok_a_row, rfl, (fun j hj => rfl), (fun G cr9 tr9 H => (H.least_no h7)), rfl⟩
def rmX9_isOf : Room := { frames := 3, cells := 0, slots := 0, locals := 75 }
theorem hd_X9_isOf : yX9_isOf.cls = RX9 ∧ yX9_isOf.cls ≠ "java/lang/invoke/MethodHandle" ∧ yX9_isOf.cls ≠ "java/lang/invoke/VarHandle" ∧ (parseMethodDescriptor yX9_isOf.desc).map (fun d => d.parameters.length) = some 3 := by decide +kernel
set_option maxHeartbeats 4000000 in
set_option maxRecDepth 100000 in
theorem c_X9_isOf (l : Launch) (D : va_G) (g : Nat → ClassId) (b : Nat → Nat) (I : Nat → Int32) (W : Int64) (n p0 t q mm bd : Nat) (a_child : Nat → Int32) (a_row : Nat → Int32) (a_events : Nat → Int32) (a_crosses : Nat → Int32) (a_laws : Nat → Int32) (c1 : Nat) (x0 : Int32) (y0 : Int32) (hn : n ≤ 8) (hp : p0 = 0 ∨ p0 = 25) (ht : t ≤ 240) (hq0 : q ≤ 20) (hmm : mm ≤ 20) (hbd : bd ≤ 30) (ok_a_row : RowOk a_row) (hpre0 : c1 < 8) : Ci l yX9_isOf (WW yX9_isOf cX9_isOf 9 (some FieldType.boolean)) rmX9_isOf D vwCl (TY g) [.ref (b 0), .int (nI c1), .int x0, .int y0] [(b 0, .inr (9, [.int (nI n), .ref (b 1), .ref (b 2), .int (nI p0), .ref (b 3), .ref (b 4), .ref (b 5), .ref (b 6), .ref (b 7), .ref (b 8), .int (I 10), .ref (b 9), .int (nI t), .int (I 13), .int (I 14), .int (I 15), .long W, .int (I 17), .int (I 18), .int (I 19), .int (I 20), .ref (b 10), .ref (b 11), .ref (b 12), .ref (b 13), .ref (b 14), .ref (b 15), .int (nI q), .int (nI mm), .ref (b 16), .ref (b 17), .ref (b 18), .ref (b 19), .ref (b 20), .ref (b 21), .int (I 35), .int (I 36), .int (I 37), .ref (b 22), .int (nI bd), .int (I 40), .int (I 41), .ref (b 23), .int (I 43), .ref (b 24)])), (b 1, .inl (g 0, 32, .inl a_child)), (b 2, .inl (g 0, 50, .inl a_row)), (b 3, .inl (g 0, 40, .inl a_events)), (b 4, .inl (g 0, 40, .inl a_crosses)), (b 6, .inl (g 0, 4, .inl a_laws))] (fun r u => (∀ d : Nat, d ≤ 40 → a_row 0 = nI d → r = if mOfKind a_crosses a_events c1 (a_child (4 * c1 + 3)) (a_laws 1) x0 y0 d = true then 1 else 0) ∧ u = [(b 0, .inr (9, [.int (nI n), .ref (b 1), .ref (b 2), .int (nI p0), .ref (b 3), .ref (b 4), .ref (b 5), .ref (b 6), .ref (b 7), .ref (b 8), .int (I 10), .ref (b 9), .int (nI t), .int (I 13), .int (I 14), .int (I 15), .long W, .int (I 17), .int (I 18), .int (I 19), .int (I 20), .ref (b 10), .ref (b 11), .ref (b 12), .ref (b 13), .ref (b 14), .ref (b 15), .int (nI q), .int (nI mm), .ref (b 16), .ref (b 17), .ref (b 18), .ref (b 19), .ref (b 20), .ref (b 21), .int (I 35), .int (I 36), .int (I 37), .ref (b 22), .int (nI bd), .int (I 40), .int (I 41), .ref (b 23), .int (I 43), .ref (b 24)])), (b 1, .inl (g 0, 32, .inl a_child)), (b 2, .inl (g 0, 50, .inl a_row)), (b 3, .inl (g 0, 40, .inl a_events)), (b 4, .inl (g 0, 40, .inl a_crosses)), (b 6, .inl (g 0, 4, .inl a_laws))]) := by
  refine ci_in (by decide) (Nat.le_of_ble_eq_true rfl) (a0 := [b 0, b 1, b 2, b 3, b 4, b 6]) rfl (fun p e s m args below meth c A Q hQ B hr hsc => ?_)
  obtain ⟨dz, hdz, hrz⟩ : le40 (a_row 0) := RowOk.at ok_a_row (Or.inl rfl)
  have L6 : ∀ (jj6 : Nat) (v_1 : Int32) (k_2 : Nat), 40 - k_2 < jj6 → (c1 < 8) → (k_2 ≤ dz) → (IsO a_crosses a_events c1 (a_child (4 * c1 + 3)) (a_laws 1) x0 y0 k_2 v_1) → Sx p l e rmX9_isOf s m args below meth c D vwCl A 9 Q 6 [(0, .ref (b 0)), (1, .int (nI c1)), (2, .int x0), (3, .int y0), (4, .int v_1), (5, .int (nI k_2))] [] [(b 0, .inr (9, [.int (nI n), .ref (b 1), .ref (b 2), .int (nI p0), .ref (b 3), .ref (b 4), .ref (b 5), .ref (b 6), .ref (b 7), .ref (b 8), .int (I 10), .ref (b 9), .int (nI t), .int (I 13), .int (I 14), .int (I 15), .long W, .int (I 17), .int (I 18), .int (I 19), .int (I 20), .ref (b 10), .ref (b 11), .ref (b 12), .ref (b 13), .ref (b 14), .ref (b 15), .int (nI q), .int (nI mm), .ref (b 16), .ref (b 17), .ref (b 18), .ref (b 19), .ref (b 20), .ref (b 21), .int (I 35), .int (I 36), .int (I 37), .ref (b 22), .int (nI bd), .int (I 40), .int (I 41), .ref (b 23), .int (I 43), .ref (b 24)])), (b 1, .inl (g 0, 32, .inl a_child)), (b 2, .inl (g 0, 50, .inl a_row)), (b 3, .inl (g 0, 40, .inl a_events)), (b 4, .inl (g 0, 40, .inl a_crosses)), (b 6, .inl (g 0, 4, .inl a_laws))] := by
    intro jj6
    induction jj6 with
    | zero => intro v_1 k_2 hj; exact absurd hj (Nat.not_lt_zero _)
    | succ jj6 ih6 =>
      intro v_1 k_2 hj6 hpre0 h_3 hI_4
      have M92 : (c1 < 8) → (IsO a_crosses a_events c1 (a_child (4 * c1 + 3)) (a_laws 1) x0 y0 k_2 v_1) → (¬ (((a_crosses k_2) >>> ((nI c1) &&& 31)) &&& 1) = 1) → (k_2 < dz) → (mAway x0 y0 (a_child (4 * c1 + 3)) (nI k_2) (a_events k_2) false false v_1 (a_laws 1) = true ∨ x0 = 2 ∨ x0 = 5) → Sx p l e rmX9_isOf s m args below meth c D vwCl A 9 Q 92 [(0, .ref (b 0)), (1, .int (nI c1)), (2, .int x0), (3, .int y0), (4, .int v_1), (5, .int (nI k_2)), (6, .int 0)] [] [(b 0, .inr (9, [.int (nI n), .ref (b 1), .ref (b 2), .int (nI p0), .ref (b 3), .ref (b 4), .ref (b 5), .ref (b 6), .ref (b 7), .ref (b 8), .int (I 10), .ref (b 9), .int (nI t), .int (I 13), .int (I 14), .int (I 15), .long W, .int (I 17), .int (I 18), .int (I 19), .int (I 20), .ref (b 10), .ref (b 11), .ref (b 12), .ref (b 13), .ref (b 14), .ref (b 15), .int (nI q), .int (nI mm), .ref (b 16), .ref (b 17), .ref (b 18), .ref (b 19), .ref (b 20), .ref (b 21), .int (I 35), .int (I 36), .int (I 37), .ref (b 22), .int (nI bd), .int (I 40), .int (I 41), .ref (b 23), .int (I 43), .ref (b 24)])), (b 1, .inl (g 0, 32, .inl a_child)), (b 2, .inl (g 0, 50, .inl a_row)), (b 3, .inl (g 0, 40, .inl a_events)), (b 4, .inl (g 0, 40, .inl a_crosses)), (b 6, .inl (g 0, 4, .inl a_laws))] := by
        intro hpre0 hI_4 h29 hj_13 hS_14
        refine s_iconst B dX9_isOf_92 ic_1 ?_
        refine s_goto (tgt := 97) B dX9_isOf_93 rfl ?_
        refine s_istore (lv' := [(8, _), (0, _), (1, _), (2, _), (3, _), (4, _), (5, _), (6, _)]) B dX9_isOf_97 (Nat.le_of_ble_eq_true rfl) rfl ?_
        refine s_iload B dX9_isOf_99 0 rfl ?_
        refine s_if_ne (tgt := 106) B dX9_isOf_101 rfl (fun h101 => ?_) (fun h0 => absurd h0 (by decide))
        refine s_iload B dX9_isOf_106 7 rfl ?_
        refine s_if_eq (tgt := 115) B dX9_isOf_108 rfl (fun h108 => ?_) (fun h0 => absurd h0 (by decide))
        refine s_iload B dX9_isOf_115 5 rfl ?_
        refine s_iconst B dX9_isOf_117 ic_1 ?_
        refine s_iadd B dX9_isOf_118 ?_
        refine s_istore (lv' := [(4, _), (8, _), (0, _), (1, _), (2, _), (3, _), (5, _), (6, _)]) B dX9_isOf_119 (Nat.le_of_ble_eq_true rfl) rfl ?_
        refine s_iinc (lv' := [(5, _), (4, _), (8, _), (0, _), (1, _), (2, _), (3, _), (6, _)]) (k := 6) B dX9_isOf_121 rfl (ii_n _) (Nat.le_of_ble_eq_true rfl) rfl ?_
        refine s_goto (tgt := 6) B dX9_isOf_124 rfl ?_
        refine s_lv (lv' := [(0, _), (1, _), (2, _), (3, _), (4, _), (5, _)]) [3, 4, 5, 6, 1, 0] rfl ?_
        exact ih6 (v_1 + 1) (k_2 + 1) (by omega) hpre0 (by omega) (io_n (by omega) hI_4 h29 hS_14)
      refine s_iload B dX9_isOf_6 5 rfl ?_
      refine s_aload_n B dX9_isOf_8 rfl 0 rfl ?_
      refine s_get (T := TX9) B inX9 0 rfl rfl 2 (Nat.le_of_ble_eq_true rfl) fl_X9_13 rfl rfl dX9_isOf_9 ?_
      refine s_iconst B dX9_isOf_12 ic_0 ?_
      refine s_ialdN B 2 0 rfl rfl dX9_isOf_13 (by decide) (by decide) ?_
      refine s_st (st' := [.int (nI dz), .int (nI k_2)]) (by rw [hrz]) ?_
      refine s_icmp_ge (tgt := 127) B dX9_isOf_14 rfl (fun h14 => ?_) (fun h14 => ?_)
      · replace h14 : dz ≤ k_2 := (nI_leI (a := dz) (b := k_2) (by omega) (by omega)).mp h14
        refine s_iconst B dX9_isOf_127 ic_1 ?_
        refine s_zret B hQ hr dX9_isOf_128 rfl rfl ?_
        exact ⟨(fun d hd hr => by rw [show d = dz from (nI_eq (by omega) (by omega)).mp (hr.symm.trans hrz)]; exact io_e hI_4 (by omega)), rfl⟩
      · replace h14 : ¬ dz ≤ k_2 := fun hh => h14 ((nI_leI (a := dz) (b := k_2) (by omega) (by omega)).mpr hh)
        refine s_aload_n B dX9_isOf_17 rfl 0 rfl ?_
        refine s_get (T := TX9) B inX9 0 rfl rfl 5 (Nat.le_of_ble_eq_true rfl) fl_X9_19 rfl rfl dX9_isOf_18 ?_
        refine s_iload B dX9_isOf_21 5 rfl ?_
        refine s_ialdN B 4 0 rfl rfl dX9_isOf_23 (by omega) (by decide) ?_
        refine s_iload_n B dX9_isOf_24 rfl 1 rfl ?_
        refine s_ishr B dX9_isOf_25 ?_
        refine s_iconst B dX9_isOf_26 ic_1 ?_
        refine s_iand B dX9_isOf_27 ?_
        refine s_iconst B dX9_isOf_28 ic_1 ?_
        refine s_icmp_ne (tgt := 36) B dX9_isOf_29 rfl (fun h29 => ?_) (fun h29 => ?_)
        · refine s_iconst B dX9_isOf_36 ic_0 ?_
          refine s_istore (lv' := [(6, _), (0, _), (1, _), (2, _), (3, _), (4, _), (5, _)]) B dX9_isOf_37 (Nat.le_of_ble_eq_true rfl) rfl ?_
          refine s_aload_n B dX9_isOf_39 rfl 1 rfl ?_
          refine s_iload_n B dX9_isOf_40 rfl 3 rfl ?_
          refine s_iload_n B dX9_isOf_41 rfl 4 rfl ?_
          refine s_aload_n B dX9_isOf_42 rfl 1 rfl ?_
          refine s_iload_n B dX9_isOf_43 rfl 2 rfl ?_
          refine s_iconst B dX9_isOf_44 ic_3 ?_
          refine s_callVi B hsc (c_X9_its l D g b (upd (upd (upd (upd I 12 (nI t)) 27 (nI q)) 28 (nI mm)) 39 (nI bd)) W n p0 a_child c1 3 (by omega) (by omega)) (gw_V ml_X9_209 im_yX9_its se_yX9_its ini_RX9 co_yX9_its) hd_X9_its rfl rfl ⟨(Nat.le_of_ble_eq_true rfl), (Nat.le_of_ble_eq_true rfl)⟩ [0, 1] [0, 1, 2, 3, 4] rfl rfl rfl (ci := 9) (q0 := 0) rfl rfl rfl rfl rfl (Nat.le_of_ble_eq_true rfl) dX9_isOf_45 (fun r_5 u_6 hpo => ?_)
          obtain ⟨rfl, rfl⟩ := hpo
          refine s_st (st' := [.int (a_child (4 * c1 + 3)), .int y0, .int x0, .ref (b 0)]) rfl ?_
          refine s_ws (ws' := [(b 0, .inr (9, [.int (nI n), .ref (b 1), .ref (b 2), .int (nI p0), .ref (b 3), .ref (b 4), .ref (b 5), .ref (b 6), .ref (b 7), .ref (b 8), .int (I 10), .ref (b 9), .int (nI t), .int (I 13), .int (I 14), .int (I 15), .long W, .int (I 17), .int (I 18), .int (I 19), .int (I 20), .ref (b 10), .ref (b 11), .ref (b 12), .ref (b 13), .ref (b 14), .ref (b 15), .int (nI q), .int (nI mm), .ref (b 16), .ref (b 17), .ref (b 18), .ref (b 19), .ref (b 20), .ref (b 21), .int (I 35), .int (I 36), .int (I 37), .ref (b 22), .int (nI bd), .int (I 40), .int (I 41), .ref (b 23), .int (I 43), .ref (b 24)])), (b 1, .inl (g 0, 32, .inl a_child)), (b 2, .inl (g 0, 50, .inl a_row)), (b 3, .inl (g 0, 40, .inl a_events)), (b 4, .inl (g 0, 40, .inl a_crosses)), (b 6, .inl (g 0, 4, .inl a_laws))]) rfl ?_
          refine s_iload B dX9_isOf_48 6 rfl ?_
          refine s_iconst B dX9_isOf_50 ic_0 ?_
          refine s_iconst B dX9_isOf_51 ic_0 ?_
          refine s_iload B dX9_isOf_52 5 rfl ?_
          refine s_callVi B hsc (c_X9_isAway l D g b (upd (upd (upd (upd I 12 (nI t)) 27 (nI q)) 28 (nI mm)) 39 (nI bd)) W n p0 a_events a_laws x0 y0 (a_child (4 * c1 + 3)) k_2 false false v_1 (by omega)) (gw_V ml_X9_225 im_yX9_isAway se_yX9_isAway ini_RX9 co_yX9_isAway) hd_X9_isAway rfl rfl ⟨(Nat.le_of_ble_eq_true rfl), (Nat.le_of_ble_eq_true rfl)⟩ [0, 3, 5] [0, 1, 2, 3, 4] rfl rfl rfl (ci := 9) (q0 := 0) rfl rfl rfl rfl rfl (Nat.le_of_ble_eq_true rfl) dX9_isOf_54 (fun r_7 u_8 hpo => ?_)
          obtain ⟨rfl, rfl⟩ := hpo
          refine s_st (st' := [.int (if mAway x0 y0 (a_child (4 * c1 + 3)) (nI k_2) (a_events k_2) false false v_1 (a_laws 1) = true then 1 else 0)]) rfl ?_
          refine s_ws (ws' := [(b 0, .inr (9, [.int (nI n), .ref (b 1), .ref (b 2), .int (nI p0), .ref (b 3), .ref (b 4), .ref (b 5), .ref (b 6), .ref (b 7), .ref (b 8), .int (I 10), .ref (b 9), .int (nI t), .int (I 13), .int (I 14), .int (I 15), .long W, .int (I 17), .int (I 18), .int (I 19), .int (I 20), .ref (b 10), .ref (b 11), .ref (b 12), .ref (b 13), .ref (b 14), .ref (b 15), .int (nI q), .int (nI mm), .ref (b 16), .ref (b 17), .ref (b 18), .ref (b 19), .ref (b 20), .ref (b 21), .int (I 35), .int (I 36), .int (I 37), .ref (b 22), .int (nI bd), .int (I 40), .int (I 41), .ref (b 23), .int (I 43), .ref (b 24)])), (b 1, .inl (g 0, 32, .inl a_child)), (b 2, .inl (g 0, 50, .inl a_row)), (b 3, .inl (g 0, 40, .inl a_events)), (b 4, .inl (g 0, 40, .inl a_crosses)), (b 6, .inl (g 0, 4, .inl a_laws))]) rfl ?_
          refine s_istore (lv' := [(7, _), (6, _), (0, _), (1, _), (2, _), (3, _), (4, _), (5, _)]) B dX9_isOf_57 (Nat.le_of_ble_eq_true rfl) rfl ?_
          refine s_iload B dX9_isOf_59 1 rfl ?_
          refine s_if_eq (tgt := 77) B dX9_isOf_61 rfl (fun h61 => ?_) (fun h0 => absurd h0 (by decide))
          refine s_iload B dX9_isOf_77 0 rfl ?_
          refine s_bif_ne (tgt := 92) B dX9_isOf_79 rfl (fun h79 => ?_) (fun h79 => ?_)
          · refine s_lv (lv' := [(0, _), (1, _), (2, _), (3, _), (4, _), (5, _), (6, _)]) [2, 3, 4, 5, 6, 7, 1] rfl ?_
            exact M92  hpre0 hI_4 h29 (by omega) (by first | exact Or.inl (by assumption) | exact Or.inr (Or.inl (by assumption)) | exact Or.inr (Or.inr (by assumption)))
          · refine s_iload_n B dX9_isOf_82 rfl 4 rfl ?_
            refine s_iconst B dX9_isOf_83 ic_2 ?_
            refine s_icmp_eq (tgt := 92) B dX9_isOf_84 rfl (fun h84 => ?_) (fun h84 => ?_)
            · refine s_lv (lv' := [(0, _), (1, _), (2, _), (3, _), (4, _), (5, _), (6, _)]) [2, 3, 4, 5, 6, 7, 1] rfl ?_
              exact M92  hpre0 hI_4 h29 (by omega) (by first | exact Or.inl (by assumption) | exact Or.inr (Or.inl (by assumption)) | exact Or.inr (Or.inr (by assumption)))
            · refine s_iload_n B dX9_isOf_87 rfl 4 rfl ?_
              refine s_iconst B dX9_isOf_88 ic_5 ?_
              refine s_icmp_ne (tgt := 96) B dX9_isOf_89 rfl (fun h89 => ?_) (fun h89 => ?_)
              · refine s_iconst B dX9_isOf_96 ic_0 ?_
                refine s_istore (lv' := [(8, _), (7, _), (6, _), (0, _), (1, _), (2, _), (3, _), (4, _), (5, _)]) B dX9_isOf_97 (Nat.le_of_ble_eq_true rfl) rfl ?_
                refine s_iload B dX9_isOf_99 0 rfl ?_
                refine s_if_ne (tgt := 106) B dX9_isOf_101 rfl (fun h0 => absurd h0 (by decide)) (fun h101 => ?_)
                refine s_iconst B dX9_isOf_104 ic_0 ?_
                refine s_zret B hQ hr dX9_isOf_105 rfl rfl ?_
                exact ⟨(fun d hd hr => by rw [show d = dz from (nI_eq (by omega) (by omega)).mp (hr.symm.trans hrz)]; exact io_f (by omega) hI_4 (by omega) (Or.inr ⟨h29, h79, h84, h89⟩)), rfl⟩
              · refine s_lv (lv' := [(0, _), (1, _), (2, _), (3, _), (4, _), (5, _), (6, _)]) [2, 3, 4, 5, 6, 7, 1] rfl ?_
                exact M92  hpre0 hI_4 h29 (by omega) (by first | exact Or.inl (by assumption) | exact Or.inr (Or.inl (by assumption)) | exact Or.inr (Or.inr (by assumption)))
        · refine s_iconst B dX9_isOf_32 ic_1 ?_
          refine s_goto (tgt := 37) B dX9_isOf_33 rfl ?_
          refine s_istore (lv' := [(6, _), (0, _), (1, _), (2, _), (3, _), (4, _), (5, _)]) B dX9_isOf_37 (Nat.le_of_ble_eq_true rfl) rfl ?_
          refine s_aload_n B dX9_isOf_39 rfl 1 rfl ?_
          refine s_iload_n B dX9_isOf_40 rfl 3 rfl ?_
          refine s_iload_n B dX9_isOf_41 rfl 4 rfl ?_
          refine s_aload_n B dX9_isOf_42 rfl 1 rfl ?_
          refine s_iload_n B dX9_isOf_43 rfl 2 rfl ?_
          refine s_iconst B dX9_isOf_44 ic_3 ?_
          refine s_callVi B hsc (c_X9_its l D g b (upd (upd (upd (upd I 12 (nI t)) 27 (nI q)) 28 (nI mm)) 39 (nI bd)) W n p0 a_child c1 3 (by omega) (by omega)) (gw_V ml_X9_209 im_yX9_its se_yX9_its ini_RX9 co_yX9_its) hd_X9_its rfl rfl ⟨(Nat.le_of_ble_eq_true rfl), (Nat.le_of_ble_eq_true rfl)⟩ [0, 1] [0, 1, 2, 3, 4] rfl rfl rfl (ci := 9) (q0 := 0) rfl rfl rfl rfl rfl (Nat.le_of_ble_eq_true rfl) dX9_isOf_45 (fun r_9 u_10 hpo => ?_)
          obtain ⟨rfl, rfl⟩ := hpo
          refine s_st (st' := [.int (a_child (4 * c1 + 3)), .int y0, .int x0, .ref (b 0)]) rfl ?_
          refine s_ws (ws' := [(b 0, .inr (9, [.int (nI n), .ref (b 1), .ref (b 2), .int (nI p0), .ref (b 3), .ref (b 4), .ref (b 5), .ref (b 6), .ref (b 7), .ref (b 8), .int (I 10), .ref (b 9), .int (nI t), .int (I 13), .int (I 14), .int (I 15), .long W, .int (I 17), .int (I 18), .int (I 19), .int (I 20), .ref (b 10), .ref (b 11), .ref (b 12), .ref (b 13), .ref (b 14), .ref (b 15), .int (nI q), .int (nI mm), .ref (b 16), .ref (b 17), .ref (b 18), .ref (b 19), .ref (b 20), .ref (b 21), .int (I 35), .int (I 36), .int (I 37), .ref (b 22), .int (nI bd), .int (I 40), .int (I 41), .ref (b 23), .int (I 43), .ref (b 24)])), (b 1, .inl (g 0, 32, .inl a_child)), (b 2, .inl (g 0, 50, .inl a_row)), (b 3, .inl (g 0, 40, .inl a_events)), (b 4, .inl (g 0, 40, .inl a_crosses)), (b 6, .inl (g 0, 4, .inl a_laws))]) rfl ?_
          refine s_iload B dX9_isOf_48 6 rfl ?_
          refine s_iconst B dX9_isOf_50 ic_0 ?_
          refine s_iconst B dX9_isOf_51 ic_0 ?_
          refine s_iload B dX9_isOf_52 5 rfl ?_
          refine s_callVi B hsc (c_X9_isAway l D g b (upd (upd (upd (upd I 12 (nI t)) 27 (nI q)) 28 (nI mm)) 39 (nI bd)) W n p0 a_events a_laws x0 y0 (a_child (4 * c1 + 3)) k_2 false false v_1 (by omega)) (gw_V ml_X9_225 im_yX9_isAway se_yX9_isAway ini_RX9 co_yX9_isAway) hd_X9_isAway rfl rfl ⟨(Nat.le_of_ble_eq_true rfl), (Nat.le_of_ble_eq_true rfl)⟩ [0, 3, 5] [0, 1, 2, 3, 4] rfl rfl rfl (ci := 9) (q0 := 0) rfl rfl rfl rfl rfl (Nat.le_of_ble_eq_true rfl) dX9_isOf_54 (fun r_11 u_12 hpo => ?_)
          obtain ⟨rfl, rfl⟩ := hpo
          refine s_st (st' := [.int (if mAway x0 y0 (a_child (4 * c1 + 3)) (nI k_2) (a_events k_2) false false v_1 (a_laws 1) = true then 1 else 0)]) rfl ?_
          refine s_ws (ws' := [(b 0, .inr (9, [.int (nI n), .ref (b 1), .ref (b 2), .int (nI p0), .ref (b 3), .ref (b 4), .ref (b 5), .ref (b 6), .ref (b 7), .ref (b 8), .int (I 10), .ref (b 9), .int (nI t), .int (I 13), .int (I 14), .int (I 15), .long W, .int (I 17), .int (I 18), .int (I 19), .int (I 20), .ref (b 10), .ref (b 11), .ref (b 12), .ref (b 13), .ref (b 14), .ref (b 15), .int (nI q), .int (nI mm), .ref (b 16), .ref (b 17), .ref (b 18), .ref (b 19), .ref (b 20), .ref (b 21), .int (I 35), .int (I 36), .int (I 37), .ref (b 22), .int (nI bd), .int (I 40), .int (I 41), .ref (b 23), .int (I 43), .ref (b 24)])), (b 1, .inl (g 0, 32, .inl a_child)), (b 2, .inl (g 0, 50, .inl a_row)), (b 3, .inl (g 0, 40, .inl a_events)), (b 4, .inl (g 0, 40, .inl a_crosses)), (b 6, .inl (g 0, 4, .inl a_laws))]) rfl ?_
          refine s_istore (lv' := [(7, _), (6, _), (0, _), (1, _), (2, _), (3, _), (4, _), (5, _)]) B dX9_isOf_57 (Nat.le_of_ble_eq_true rfl) rfl ?_
          refine s_iload B dX9_isOf_59 1 rfl ?_
          refine s_if_eq (tgt := 77) B dX9_isOf_61 rfl (fun h0 => absurd h0 (by decide)) (fun h61 => ?_)
          refine s_iload B dX9_isOf_64 0 rfl ?_
          refine s_bif_ne (tgt := 73) B dX9_isOf_66 rfl (fun h66 => ?_) (fun h66 => ?_)
          · refine s_iconst B dX9_isOf_73 ic_0 ?_
            refine s_goto (tgt := 97) B dX9_isOf_74 rfl ?_
            refine s_istore (lv' := [(8, _), (7, _), (6, _), (0, _), (1, _), (2, _), (3, _), (4, _), (5, _)]) B dX9_isOf_97 (Nat.le_of_ble_eq_true rfl) rfl ?_
            refine s_iload B dX9_isOf_99 0 rfl ?_
            refine s_if_ne (tgt := 106) B dX9_isOf_101 rfl (fun h0 => absurd h0 (by decide)) (fun h101 => ?_)
            refine s_iconst B dX9_isOf_104 ic_0 ?_
            refine s_zret B hQ hr dX9_isOf_105 rfl rfl ?_
            exact ⟨(fun d hd hr => by rw [show d = dz from (nI_eq (by omega) (by omega)).mp (hr.symm.trans hrz)]; exact io_f (by omega) hI_4 (by omega) (Or.inl ⟨h29, h66⟩)), rfl⟩
          · refine s_iconst B dX9_isOf_69 ic_1 ?_
            refine s_goto (tgt := 97) B dX9_isOf_70 rfl ?_
            refine s_istore (lv' := [(8, _), (7, _), (6, _), (0, _), (1, _), (2, _), (3, _), (4, _), (5, _)]) B dX9_isOf_97 (Nat.le_of_ble_eq_true rfl) rfl ?_
            refine s_iload B dX9_isOf_99 0 rfl ?_
            refine s_if_ne (tgt := 106) B dX9_isOf_101 rfl (fun h101 => ?_) (fun h0 => absurd h0 (by decide))
            refine s_iload B dX9_isOf_106 2 rfl ?_
            refine s_if_eq (tgt := 115) B dX9_isOf_108 rfl (fun h0 => absurd h0 (by decide)) (fun h108 => ?_)
            refine s_iconst B dX9_isOf_111 ic_0 ?_
            refine s_goto (tgt := 119) B dX9_isOf_112 rfl ?_
            refine s_istore (lv' := [(4, _), (8, _), (7, _), (6, _), (0, _), (1, _), (2, _), (3, _), (5, _)]) B dX9_isOf_119 (Nat.le_of_ble_eq_true rfl) rfl ?_
            refine s_iinc (lv' := [(5, _), (4, _), (8, _), (7, _), (6, _), (0, _), (1, _), (2, _), (3, _)]) (k := 8) B dX9_isOf_121 rfl (ii_n _) (Nat.le_of_ble_eq_true rfl) rfl ?_
            refine s_goto (tgt := 6) B dX9_isOf_124 rfl ?_
            refine s_lv (lv' := [(0, _), (1, _), (2, _), (3, _), (4, _), (5, _)]) [5, 6, 7, 8, 1, 0] rfl ?_
            exact ih6 0 (k_2 + 1) (by omega) hpre0 (by omega) (io_y (by omega) hI_4 h29 h66)
  refine s_iconst B dX9_isOf_0 ic_0 ?_
  refine s_istore (lv' := [(4, _), (0, _), (1, _), (2, _), (3, _)]) B dX9_isOf_1 (Nat.le_of_ble_eq_true rfl) rfl ?_
  refine s_iconst B dX9_isOf_3 ic_0 ?_
  refine s_istore (lv' := [(5, _), (4, _), (0, _), (1, _), (2, _), (3, _)]) B dX9_isOf_4 (Nat.le_of_ble_eq_true rfl) rfl ?_
  refine s_lv (lv' := [(0, _), (1, _), (2, _), (3, _), (4, _), (5, _)]) [2, 3, 4, 5, 1, 0] rfl ?_
  refine s_lve (lv' := [(0, .ref (b 0)), (1, .int (nI c1)), (2, .int x0), (3, .int y0), (4, .int 0), (5, .int (nI 0))]) (by first | rfl | (simp only [if_pos, if_neg]; done)) ?_
  exact L6 _ 0 0 (Nat.lt_succ_self _) hpre0 (by omega) (⟨rfl, rfl⟩)
def rmX9_fits : Room := { frames := 4, cells := 0, slots := 0, locals := 103 }
theorem hd_X9_fits : yX9_fits.cls = RX9 ∧ yX9_fits.cls ≠ "java/lang/invoke/MethodHandle" ∧ yX9_fits.cls ≠ "java/lang/invoke/VarHandle" ∧ (parseMethodDescriptor yX9_fits.desc).map (fun d => d.parameters.length) = some 1 := by decide +kernel
set_option maxHeartbeats 4000000 in
set_option maxRecDepth 100000 in
theorem c_X9_fits (l : Launch) (D : va_G) (g : Nat → ClassId) (b : Nat → Nat) (I : Nat → Int32) (W : Int64) (n p0 t q mm bd : Nat) (a_child : Nat → Int32) (a_row : Nat → Int32) (a_events : Nat → Int32) (a_crosses : Nat → Int32) (a_laws : Nat → Int32) (c0 : Int32) (hn : n ≤ 8) (hp : p0 = 0 ∨ p0 = 25) (ht : t ≤ 240) (hq0 : q ≤ 20) (hmm : mm ≤ 20) (hbd : bd ≤ 30) (ok_a_row : RowOk a_row) : Ci l yX9_fits (WW yX9_fits cX9_fits 5 (some FieldType.int)) rmX9_fits D vwCl (TY g) [.ref (b 0), .int c0] [(b 0, .inr (9, [.int (nI n), .ref (b 1), .ref (b 2), .int (nI 0), .ref (b 3), .ref (b 4), .ref (b 5), .ref (b 6), .ref (b 7), .ref (b 8), .int (I 10), .ref (b 9), .int (nI t), .int (I 13), .int (I 14), .int (I 15), .long W, .int (I 17), .int (I 18), .int (I 19), .int (I 20), .ref (b 10), .ref (b 11), .ref (b 12), .ref (b 13), .ref (b 14), .ref (b 15), .int (nI q), .int (nI mm), .ref (b 16), .ref (b 17), .ref (b 18), .ref (b 19), .ref (b 20), .ref (b 21), .int (I 35), .int (I 36), .int (I 37), .ref (b 22), .int (nI bd), .int (I 40), .int (I 41), .ref (b 23), .int (I 43), .ref (b 24)])), (b 1, .inl (g 0, 32, .inl a_child)), (b 2, .inl (g 0, 50, .inl a_row)), (b 3, .inl (g 0, 40, .inl a_events)), (b 4, .inl (g 0, 40, .inl a_crosses)), (b 6, .inl (g 0, 4, .inl a_laws))] (fun r u => (∀ (G : MG) (tr9 : MA), RG G n a_child a_row a_events a_crosses tr9 a_laws (I 10) → r = aFits c0 G) ∧ u = [(b 0, .inr (9, [.int (nI n), .ref (b 1), .ref (b 2), .int (nI 0), .ref (b 3), .ref (b 4), .ref (b 5), .ref (b 6), .ref (b 7), .ref (b 8), .int (I 10), .ref (b 9), .int (nI t), .int (I 13), .int (I 14), .int (I 15), .long W, .int (I 17), .int (I 18), .int (I 19), .int (I 20), .ref (b 10), .ref (b 11), .ref (b 12), .ref (b 13), .ref (b 14), .ref (b 15), .int (nI q), .int (nI mm), .ref (b 16), .ref (b 17), .ref (b 18), .ref (b 19), .ref (b 20), .ref (b 21), .int (I 35), .int (I 36), .int (I 37), .ref (b 22), .int (nI bd), .int (I 40), .int (I 41), .ref (b 23), .int (I 43), .ref (b 24)])), (b 1, .inl (g 0, 32, .inl a_child)), (b 2, .inl (g 0, 50, .inl a_row)), (b 3, .inl (g 0, 40, .inl a_events)), (b 4, .inl (g 0, 40, .inl a_crosses)), (b 6, .inl (g 0, 4, .inl a_laws))]) := by
  refine ci_in (by decide) (Nat.le_of_ble_eq_true rfl) (a0 := [b 0, b 1, b 2, b 3, b 4, b 6]) rfl (fun p e s m args below meth c A Q hQ B hr hsc => ?_)
  obtain ⟨dz, hdz, hrz⟩ : le40 (a_row 0) := RowOk.at ok_a_row (Or.inl rfl)
  refine s_aload_n B dX9_fits_0 rfl 0 rfl ?_
  refine s_iload_n B dX9_fits_1 rfl 1 rfl ?_
  refine s_callVi B hsc (c_X9_isChild l D g b (upd (upd (upd (upd I 12 (nI t)) 27 (nI q)) 28 (nI mm)) 39 (nI bd)) W n 0 c0) (gw_V ml_X9_206 im_yX9_isChild se_yX9_isChild ini_RX9 co_yX9_isChild) hd_X9_isChild rfl rfl ⟨(Nat.le_of_ble_eq_true rfl), (Nat.le_of_ble_eq_true rfl)⟩ [0] [0, 1, 2, 3, 4] rfl rfl rfl (ci := 9) (q0 := 0) rfl rfl rfl rfl rfl (Nat.le_of_ble_eq_true rfl) dX9_fits_2 (fun r_1 u_2 hpo => ?_)
  obtain ⟨rfl, rfl⟩ := hpo
  refine s_st (st' := [.int (if ¬ c0 < 0 ∧ ¬ nI n - 1 < c0 then 1 else 0)]) rfl ?_
  refine s_ws (ws' := [(b 0, .inr (9, [.int (nI n), .ref (b 1), .ref (b 2), .int (nI 0), .ref (b 3), .ref (b 4), .ref (b 5), .ref (b 6), .ref (b 7), .ref (b 8), .int (I 10), .ref (b 9), .int (nI t), .int (I 13), .int (I 14), .int (I 15), .long W, .int (I 17), .int (I 18), .int (I 19), .int (I 20), .ref (b 10), .ref (b 11), .ref (b 12), .ref (b 13), .ref (b 14), .ref (b 15), .int (nI q), .int (nI mm), .ref (b 16), .ref (b 17), .ref (b 18), .ref (b 19), .ref (b 20), .ref (b 21), .int (I 35), .int (I 36), .int (I 37), .ref (b 22), .int (nI bd), .int (I 40), .int (I 41), .ref (b 23), .int (I 43), .ref (b 24)])), (b 1, .inl (g 0, 32, .inl a_child)), (b 2, .inl (g 0, 50, .inl a_row)), (b 3, .inl (g 0, 40, .inl a_events)), (b 4, .inl (g 0, 40, .inl a_crosses)), (b 6, .inl (g 0, 4, .inl a_laws))]) rfl ?_
  refine s_bif_ne (tgt := 10) B dX9_fits_5 rfl (fun h5 => ?_) (fun h5 => ?_)
  · obtain ⟨k_3, hk_4, rfl⟩ := nat_lt1 (N := n) h5.1 h5.2 (by omega)
    have L14 : ∀ (jj14 : Nat) (v_5 : Int32) (kk_6 : Nat), 6 - kk_6 < jj14 → (¬ (nI k_3) < 0 ∧ ¬ nI n - 1 < (nI k_3)) → (k_3 < n) → (kk_6 ≤ 6) → (v_5 = mKinds (fun x j => mOfKind a_crosses a_events k_3 (a_child (4 * k_3 + 3)) (a_laws 1) (nI x) (nI j) dz) kk_6) → Sx p l e rmX9_fits s m args below meth c D vwCl A 5 Q 14 [(0, .ref (b 0)), (1, .int (nI k_3)), (2, .int v_5), (3, .int (nI kk_6))] [] [(b 0, .inr (9, [.int (nI n), .ref (b 1), .ref (b 2), .int (nI 0), .ref (b 3), .ref (b 4), .ref (b 5), .ref (b 6), .ref (b 7), .ref (b 8), .int (I 10), .ref (b 9), .int (nI t), .int (I 13), .int (I 14), .int (I 15), .long W, .int (I 17), .int (I 18), .int (I 19), .int (I 20), .ref (b 10), .ref (b 11), .ref (b 12), .ref (b 13), .ref (b 14), .ref (b 15), .int (nI q), .int (nI mm), .ref (b 16), .ref (b 17), .ref (b 18), .ref (b 19), .ref (b 20), .ref (b 21), .int (I 35), .int (I 36), .int (I 37), .ref (b 22), .int (nI bd), .int (I 40), .int (I 41), .ref (b 23), .int (I 43), .ref (b 24)])), (b 1, .inl (g 0, 32, .inl a_child)), (b 2, .inl (g 0, 50, .inl a_row)), (b 3, .inl (g 0, 40, .inl a_events)), (b 4, .inl (g 0, 40, .inl a_crosses)), (b 6, .inl (g 0, 4, .inl a_laws))] := by
      intro jj14
      induction jj14 with
      | zero => intro v_5 kk_6 hj; exact absurd hj (Nat.not_lt_zero _)
      | succ jj14 ih14 =>
        intro v_5 kk_6 hj14 h5 hk_4 h_7 hK_8
        have L23 : ∀ (jj23 : Nat) (v_9 : Int32) (ka_10 : Nat), 10 - ka_10 < jj23 → (¬ (nI k_3) < 0 ∧ ¬ nI n - 1 < (nI k_3)) → (k_3 < n) → (kk_6 ≤ 6) → (¬ 6 ≤ kk_6) → (ka_10 ≤ 10) → (v_9 = mKin (fun x j => mOfKind a_crosses a_events k_3 (a_child (4 * k_3 + 3)) (a_laws 1) (nI x) (nI j) dz) kk_6 (mKinds (fun x j => mOfKind a_crosses a_events k_3 (a_child (4 * k_3 + 3)) (a_laws 1) (nI x) (nI j) dz) kk_6) ka_10) → Sx p l e rmX9_fits s m args below meth c D vwCl A 5 Q 23 [(0, .ref (b 0)), (1, .int (nI k_3)), (2, .int v_9), (3, .int (nI kk_6)), (4, .int (nI ka_10))] [] [(b 0, .inr (9, [.int (nI n), .ref (b 1), .ref (b 2), .int (nI 0), .ref (b 3), .ref (b 4), .ref (b 5), .ref (b 6), .ref (b 7), .ref (b 8), .int (I 10), .ref (b 9), .int (nI t), .int (I 13), .int (I 14), .int (I 15), .long W, .int (I 17), .int (I 18), .int (I 19), .int (I 20), .ref (b 10), .ref (b 11), .ref (b 12), .ref (b 13), .ref (b 14), .ref (b 15), .int (nI q), .int (nI mm), .ref (b 16), .ref (b 17), .ref (b 18), .ref (b 19), .ref (b 20), .ref (b 21), .int (I 35), .int (I 36), .int (I 37), .ref (b 22), .int (nI bd), .int (I 40), .int (I 41), .ref (b 23), .int (I 43), .ref (b 24)])), (b 1, .inl (g 0, 32, .inl a_child)), (b 2, .inl (g 0, 50, .inl a_row)), (b 3, .inl (g 0, 40, .inl a_events)), (b 4, .inl (g 0, 40, .inl a_crosses)), (b 6, .inl (g 0, 4, .inl a_laws))] := by
          intro jj23
          induction jj23 with
          | zero => intro v_9 ka_10 hj; exact absurd hj (Nat.not_lt_zero _)
          | succ jj23 ih23 =>
            intro v_9 ka_10 hj23 h5 hk_4 h_7 h17 h_11 hK_12
            refine s_iload B dX9_fits_23 4 rfl ?_
            refine s_bipush B dX9_fits_25 bp_10 ?_
            refine s_icmp_ge (tgt := 57) B dX9_fits_27 rfl (fun h27 => ?_) (fun h27 => ?_)
            · replace h27 : 10 ≤ ka_10 := (nI_leI (a := 10) (b := ka_10) (by omega) (by omega)).mp h27
              refine s_iinc (lv' := [(3, _), (0, _), (1, _), (2, _), (4, _)]) (k := 3) B dX9_fits_57 rfl (ii_n _) (Nat.le_of_ble_eq_true rfl) rfl ?_
              refine s_goto (tgt := 14) B dX9_fits_60 rfl ?_
              refine s_lv (lv' := [(0, _), (1, _), (2, _), (3, _)]) [1, 2, 3, 0] rfl ?_
              exact ih14 v_9 (kk_6 + 1) (by omega) h5 hk_4 (by omega) (kin_e hK_12 (by omega))
            · replace h27 : ¬ 10 ≤ ka_10 := fun hh => h27 ((nI_leI (a := 10) (b := ka_10) (by omega) (by omega)).mpr hh)
              refine s_iload_n B dX9_fits_30 rfl 2 rfl ?_
              refine s_aload_n B dX9_fits_31 rfl 0 rfl ?_
              refine s_iload_n B dX9_fits_32 rfl 1 rfl ?_
              refine s_iload_n B dX9_fits_33 rfl 3 rfl ?_
              refine s_iload B dX9_fits_34 4 rfl ?_
              refine s_callVi B hsc (c_X9_isOf l D g b I W n 0 t q mm bd a_child a_row a_events a_crosses a_laws k_3 (nI kk_6) (nI ka_10) (by omega) (by omega) (by omega) (by omega) (by omega) (by omega) ok_a_row (by first | assumption | decide | (intro h9; first | assumption | exact absurd h9 (by decide)) | omega | rfl | (refine ⟨_, ?_, by assumption⟩; omega) | (clear hQ B hr hsc; grind))) (gw_V ml_X9_253 im_yX9_isOf se_yX9_isOf ini_RX9 co_yX9_isOf) hd_X9_isOf rfl rfl ⟨(Nat.le_of_ble_eq_true rfl), (Nat.le_of_ble_eq_true rfl)⟩ [0, 1, 2, 3, 4, 5] [0, 1, 2, 3, 4] rfl rfl rfl (ci := 9) (q0 := 0) rfl rfl rfl rfl rfl (Nat.le_of_ble_eq_true rfl) dX9_fits_36 (fun r_13 u_14 hpo => ?_)
              obtain ⟨hf_15, rfl⟩ := hpo
              refine s_ws (ws' := [(b 0, .inr (9, [.int (nI n), .ref (b 1), .ref (b 2), .int (nI 0), .ref (b 3), .ref (b 4), .ref (b 5), .ref (b 6), .ref (b 7), .ref (b 8), .int (I 10), .ref (b 9), .int (nI t), .int (I 13), .int (I 14), .int (I 15), .long W, .int (I 17), .int (I 18), .int (I 19), .int (I 20), .ref (b 10), .ref (b 11), .ref (b 12), .ref (b 13), .ref (b 14), .ref (b 15), .int (nI q), .int (nI mm), .ref (b 16), .ref (b 17), .ref (b 18), .ref (b 19), .ref (b 20), .ref (b 21), .int (I 35), .int (I 36), .int (I 37), .ref (b 22), .int (nI bd), .int (I 40), .int (I 41), .ref (b 23), .int (I 43), .ref (b 24)])), (b 1, .inl (g 0, 32, .inl a_child)), (b 2, .inl (g 0, 50, .inl a_row)), (b 3, .inl (g 0, 40, .inl a_events)), (b 4, .inl (g 0, 40, .inl a_crosses)), (b 6, .inl (g 0, 4, .inl a_laws))]) rfl ?_
              refine s_if_eq (tgt := 48) B dX9_fits_39 rfl (fun h39 => ?_) (fun h39 => ?_)
              · refine s_iconst B dX9_fits_48 ic_0 ?_
                refine s_ior B dX9_fits_49 ?_
                refine s_istore_n (lv' := [(2, _), (0, _), (1, _), (3, _), (4, _)]) B dX9_fits_50 rfl (Nat.le_of_ble_eq_true rfl) rfl ?_
                refine s_iinc (lv' := [(4, _), (2, _), (0, _), (1, _), (3, _)]) (k := 4) B dX9_fits_51 rfl (ii_n _) (Nat.le_of_ble_eq_true rfl) rfl ?_
                refine s_goto (tgt := 23) B dX9_fits_54 rfl ?_
                refine s_lv (lv' := [(0, _), (1, _), (2, _), (3, _), (4, _)]) [2, 3, 1, 4, 0] rfl ?_
                exact ih23 (v_9 ||| 0) (ka_10 + 1) (by omega) h5 hk_4 h_7 h17 (by omega) (kin_n hK_12 (is0 (hf_15 dz hdz hrz) h39))
              · refine s_iconst B dX9_fits_42 ic_1 ?_
                refine s_iload_n B dX9_fits_43 rfl 3 rfl ?_
                refine s_ishl B dX9_fits_44 ?_
                refine s_goto (tgt := 49) B dX9_fits_45 rfl ?_
                refine s_ior B dX9_fits_49 ?_
                refine s_istore_n (lv' := [(2, _), (0, _), (1, _), (3, _), (4, _)]) B dX9_fits_50 rfl (Nat.le_of_ble_eq_true rfl) rfl ?_
                refine s_iinc (lv' := [(4, _), (2, _), (0, _), (1, _), (3, _)]) (k := 4) B dX9_fits_51 rfl (ii_n _) (Nat.le_of_ble_eq_true rfl) rfl ?_
                refine s_goto (tgt := 23) B dX9_fits_54 rfl ?_
                refine s_lv (lv' := [(0, _), (1, _), (2, _), (3, _), (4, _)]) [2, 3, 1, 4, 0] rfl ?_
                exact ih23 (v_9 ||| (1 <<< ((nI kk_6) &&& 31))) (ka_10 + 1) (by omega) h5 hk_4 h_7 h17 (by omega) (kin_y hK_12 (is1 (hf_15 dz hdz hrz) h39))
        refine s_iload_n B dX9_fits_14 rfl 3 rfl ?_
        refine s_bipush B dX9_fits_15 bp_6 ?_
        refine s_icmp_ge (tgt := 63) B dX9_fits_17 rfl (fun h17 => ?_) (fun h17 => ?_)
        · replace h17 : 6 ≤ kk_6 := (nI_leI (a := 6) (b := kk_6) (by omega) (by omega)).mp h17
          refine s_iload_n B dX9_fits_63 rfl 2 rfl ?_
          refine s_iret B hQ hr dX9_fits_64 rfl ?_
          exact ⟨(fun G tr9 H => (H.fits_ok (by omega) hrz hdz (show kk_6 = 6 by omega) hK_8)), rfl⟩
        · replace h17 : ¬ 6 ≤ kk_6 := fun hh => h17 ((nI_leI (a := 6) (b := kk_6) (by omega) (by omega)).mpr hh)
          refine s_iconst B dX9_fits_20 ic_0 ?_
          refine s_istore (lv' := [(4, _), (0, _), (1, _), (2, _), (3, _)]) B dX9_fits_21 (Nat.le_of_ble_eq_true rfl) rfl ?_
          refine s_lv (lv' := [(0, _), (1, _), (2, _), (3, _), (4, _)]) [1, 2, 3, 4, 0] rfl ?_
          refine s_lve (lv' := [(0, .ref (b 0)), (1, .int (nI k_3)), (2, .int v_5), (3, .int (nI kk_6)), (4, .int (nI 0))]) (by first | rfl | (simp only [if_pos, if_neg]; done)) ?_
          exact L23 _ v_5 0 (Nat.lt_succ_self _) h5 hk_4 h_7 h17 (by omega) hK_8
    refine s_iconst B dX9_fits_10 ic_0 ?_
    refine s_istore_n (lv' := [(2, _), (0, _), (1, _)]) B dX9_fits_11 rfl (Nat.le_of_ble_eq_true rfl) rfl ?_
    refine s_iconst B dX9_fits_12 ic_0 ?_
    refine s_istore_n (lv' := [(3, _), (2, _), (0, _), (1, _)]) B dX9_fits_13 rfl (Nat.le_of_ble_eq_true rfl) rfl ?_
    refine s_lv (lv' := [(0, _), (1, _), (2, _), (3, _)]) [2, 3, 1, 0] rfl ?_
    refine s_lve (lv' := [(0, .ref (b 0)), (1, .int (nI k_3)), (2, .int 0), (3, .int (nI 0))]) (by first | rfl | (simp only [if_pos, if_neg]; done)) ?_
    exact L14 _ 0 0 (Nat.lt_succ_self _) h5 hk_4 (by omega) rfl
  · refine s_iconst B dX9_fits_8 ic_m1 ?_
    refine s_iret B hQ hr dX9_fits_9 rfl ?_
    exact ⟨(fun G tr9 H => (H.fits_no h5)), rfl⟩
def rmX9_findRows : Room := { frames := 5, cells := 0, slots := 0, locals := 119 }
theorem hd_X9_findRows : yX9_findRows.cls = RX9 ∧ yX9_findRows.cls ≠ "java/lang/invoke/MethodHandle" ∧ yX9_findRows.cls ≠ "java/lang/invoke/VarHandle" ∧ (parseMethodDescriptor yX9_findRows.desc).map (fun d => d.parameters.length) = some 1 := by decide +kernel
set_option maxHeartbeats 4000000 in
set_option maxRecDepth 100000 in
theorem c_X9_findRows (l : Launch) (D : va_G) (g : Nat → ClassId) (b : Nat → Nat) (I : Nat → Int32) (W : Int64) (n p0 t q mm bd : Nat) (a_child : Nat → Int32) (a_row : Nat → Int32) (a_events : Nat → Int32) (a_laws : Nat → Int32) (a_must : Nat → Int32) (n1 : Nat) (hn : n ≤ 8) (hp : p0 = 0 ∨ p0 = 25) (ht : t ≤ 240) (hq0 : q ≤ 20) (hmm : mm ≤ 20) (hbd : bd ≤ 30) (ok_a_row : RowOk a_row) (hpre0 : n1 ≤ 20) : Cv l yX9_findRows (WW yX9_findRows cX9_findRows 2 none) rmX9_findRows D vwCl (TY g) [.ref (b 0), .int (nI n1)] [(b 0, .inr (9, [.int (nI n), .ref (b 1), .ref (b 2), .int (nI p0), .ref (b 3), .ref (b 4), .ref (b 5), .ref (b 6), .ref (b 7), .ref (b 8), .int (I 10), .ref (b 9), .int (nI t), .int (I 13), .int (I 14), .int (I 15), .long W, .int (I 17), .int (I 18), .int (I 19), .int (I 20), .ref (b 10), .ref (b 11), .ref (b 12), .ref (b 13), .ref (b 14), .ref (b 15), .int (nI q), .int (nI mm), .ref (b 16), .ref (b 17), .ref (b 18), .ref (b 19), .ref (b 20), .ref (b 21), .int (I 35), .int (I 36), .int (I 37), .ref (b 22), .int (nI bd), .int (I 40), .int (I 41), .ref (b 23), .int (I 43), .ref (b 24)])), (b 1, .inl (g 0, 32, .inl a_child)), (b 2, .inl (g 0, 50, .inl a_row)), (b 3, .inl (g 0, 40, .inl a_events)), (b 6, .inl (g 0, 4, .inl a_laws)), (b 15, .inl (g 0, 60, .inl a_must))] (fun u => ∃ (a_row' : Nat → Int32) (a_must' : Nat → Int32) (mm' : Nat), (RowOk a_row') ∧ (mm' ≤ 20) ∧ (a_row' 0 = a_row 0) ∧ (∀ j : Nat, j < 25 → a_row' j = a_row j) ∧ (∀ d : Nat, d ≤ 40 → a_row 0 = nI d → NNr a_row a_laws n 0 → mm' = min n1 (40 - d) ∧ MuR a_must' a_child a_events a_laws n d (s3R a_row 0) mm') ∧ u = [(b 0, .inr (9, [.int (nI n), .ref (b 1), .ref (b 2), .int (nI 0), .ref (b 3), .ref (b 4), .ref (b 5), .ref (b 6), .ref (b 7), .ref (b 8), .int (I 10), .ref (b 9), .int (nI t), .int (I 13), .int (I 14), .int (I 15), .long W, .int (I 17), .int (I 18), .int (I 19), .int (I 20), .ref (b 10), .ref (b 11), .ref (b 12), .ref (b 13), .ref (b 14), .ref (b 15), .int (nI q), .int (nI mm'), .ref (b 16), .ref (b 17), .ref (b 18), .ref (b 19), .ref (b 20), .ref (b 21), .int (I 35), .int (I 36), .int (I 37), .ref (b 22), .int (nI bd), .int (I 40), .int (I 41), .ref (b 23), .int (I 43), .ref (b 24)])), (b 1, .inl (g 0, 32, .inl a_child)), (b 2, .inl (g 0, 50, .inl a_row')), (b 3, .inl (g 0, 40, .inl a_events)), (b 6, .inl (g 0, 4, .inl a_laws)), (b 15, .inl (g 0, 60, .inl a_must'))]) := by
  refine cv_in (by decide) (Nat.le_of_ble_eq_true rfl) (a0 := [b 0, b 1, b 2, b 3, b 6, b 15]) rfl (fun p e s m args below meth c A Q hQ B hr hsc => ?_)
  have L9 : ∀ (jj9 : Nat) (mm_7 : Nat) (a_row_9 : Nat → Int32) (a_must_10 : Nat → Int32), n1 - mm_7 < jj9 → (n1 ≤ 20) → (mm_7 ≤ 20) → (RowOk a_row_9) → (a_row_9 0 = a_row 0) → (∀ j : Nat, j < 25 → a_row_9 j = a_row j) → (mm_7 ≤ n1) → (∀ d : Nat, d ≤ 40 → a_row 0 = nI d → NNr a_row a_laws n 0 → (GoB a_child a_row_9 a_events a_laws n 25 d mm_7 (s3R a_row 0) ∧ d + mm_7 ≤ 40) ∧ MuR a_must_10 a_child a_events a_laws n d (s3R a_row 0) mm_7) → Sx p l e rmX9_findRows s m args below meth c D vwCl A 2 Q 9 [(0, .ref (b 0)), (1, .int (nI n1))] [] [(b 0, .inr (9, [.int (nI n), .ref (b 1), .ref (b 2), .int (nI 25), .ref (b 3), .ref (b 4), .ref (b 5), .ref (b 6), .ref (b 7), .ref (b 8), .int (I 10), .ref (b 9), .int (nI t), .int (I 13), .int (I 14), .int (I 15), .long W, .int (I 17), .int (I 18), .int (I 19), .int (I 20), .ref (b 10), .ref (b 11), .ref (b 12), .ref (b 13), .ref (b 14), .ref (b 15), .int (nI q), .int (nI mm_7), .ref (b 16), .ref (b 17), .ref (b 18), .ref (b 19), .ref (b 20), .ref (b 21), .int (I 35), .int (I 36), .int (I 37), .ref (b 22), .int (nI bd), .int (I 40), .int (I 41), .ref (b 23), .int (I 43), .ref (b 24)])), (b 1, .inl (g 0, 32, .inl a_child)), (b 2, .inl (g 0, 50, .inl a_row_9)), (b 3, .inl (g 0, 40, .inl a_events)), (b 6, .inl (g 0, 4, .inl a_laws)), (b 15, .inl (g 0, 60, .inl a_must_10))] := by
    intro jj9
    induction jj9 with
    | zero => intro mm_7 a_row_9 a_must_10 hj; exact absurd hj (Nat.not_lt_zero _)
    | succ jj9 ih9 =>
      intro mm_7 a_row_9 a_must_10 hj9 hpre0 h_8 ok_a_row_9 hz_11 hy_12 hj_13 hQ_14
      refine s_aload_n B dX9_findRows_9 rfl 0 rfl ?_
      refine s_get (T := TX9) B inX9 0 rfl rfl 28 (Nat.le_of_ble_eq_true rfl) fl_X9_257 rfl rfl dX9_findRows_10 ?_
      refine s_iload_n B dX9_findRows_13 rfl 1 rfl ?_
      refine s_icmp_ge (tgt := 98) B dX9_findRows_14 rfl (fun h14 => ?_) (fun h14 => ?_)
      · replace h14 : n1 ≤ mm_7 := (nI_leI (a := n1) (b := mm_7) (by omega) (by omega)).mp h14
        refine s_aload_n B dX9_findRows_98 rfl 0 rfl ?_
        refine s_iconst B dX9_findRows_99 ic_0 ?_
        refine s_put (T := TX9) (ws' := [_, _, _, _, _, _]) B inX9 tyX9_ok nmX9 0 rfl rfl 3 (Nat.le_of_ble_eq_true rfl) fl_X9_222 rfl rfl rfl rfl (Nat.le_of_ble_eq_true rfl) rfl dX9_findRows_100 ?_
        refine s_vret B hQ hr dX9_findRows_103 rfl ?_
        exact ⟨a_row_9, a_must_10, mm_7, ok_a_row_9, by omega, (hz_11.trans rfl), (fun j hj => ((hy_12 j hj).trans rfl)), (fun d hd h nn => ⟨(go_bk (j := 0) (hQ_14 d hd h nn).1 (by omega) (Or.inl (by omega))), (hQ_14 d hd h nn).2⟩), rfl⟩
      · replace h14 : ¬ n1 ≤ mm_7 := fun hh => h14 ((nI_leI (a := n1) (b := mm_7) (by omega) (by omega)).mpr hh)
        refine s_aload_n B dX9_findRows_17 rfl 0 rfl ?_
        refine s_get (T := TX9) B inX9 0 rfl rfl 2 (Nat.le_of_ble_eq_true rfl) fl_X9_13 rfl rfl dX9_findRows_18 ?_
        refine s_aload_n B dX9_findRows_21 rfl 0 rfl ?_
        refine s_get (T := TX9) B inX9 0 rfl rfl 3 (Nat.le_of_ble_eq_true rfl) fl_X9_222 rfl rfl dX9_findRows_22 ?_
        refine s_ialdN B 2 0 rfl rfl dX9_findRows_25 (by omega) (by decide) ?_
        obtain ⟨d_15, hd_16, hr__17⟩ : le40 (a_row_9 25) := RowOk.at ok_a_row_9 (by omega)
        refine s_st (st' := [.int (nI d_15)]) (by rw [hr__17]) ?_
        refine s_bipush B dX9_findRows_26 bp_40 ?_
        refine s_icmp_ge (tgt := 98) B dX9_findRows_28 rfl (fun h28 => ?_) (fun h28 => ?_)
        · replace h28 : 40 ≤ d_15 := (nI_leI (a := 40) (b := d_15) (by omega) (by omega)).mp h28
          refine s_aload_n B dX9_findRows_98 rfl 0 rfl ?_
          refine s_iconst B dX9_findRows_99 ic_0 ?_
          refine s_put (T := TX9) (ws' := [_, _, _, _, _, _]) B inX9 tyX9_ok nmX9 0 rfl rfl 3 (Nat.le_of_ble_eq_true rfl) fl_X9_222 rfl rfl rfl rfl (Nat.le_of_ble_eq_true rfl) rfl dX9_findRows_100 ?_
          refine s_vret B hQ hr dX9_findRows_103 rfl ?_
          exact ⟨a_row_9, a_must_10, mm_7, ok_a_row_9, by omega, (hz_11.trans rfl), (fun j hj => ((hy_12 j hj).trans rfl)), (fun d hd h nn => ⟨(go_bk (hQ_14 d hd h nn).1 (by omega) (Or.inr ⟨hr__17, by omega, by omega⟩)), (hQ_14 d hd h nn).2⟩), rfl⟩
        · replace h28 : ¬ 40 ≤ d_15 := fun hh => h28 ((nI_leI (a := 40) (b := d_15) (by omega) (by omega)).mpr hh)
          refine s_aload_n B dX9_findRows_31 rfl 0 rfl ?_
          refine s_get (T := TX9) B inX9 0 rfl rfl 26 (Nat.le_of_ble_eq_true rfl) fl_X9_56 rfl rfl dX9_findRows_32 ?_
          refine s_iconst B dX9_findRows_35 ic_3 ?_
          refine s_aload_n B dX9_findRows_36 rfl 0 rfl ?_
          refine s_get (T := TX9) B inX9 0 rfl rfl 28 (Nat.le_of_ble_eq_true rfl) fl_X9_257 rfl rfl dX9_findRows_37 ?_
          refine s_imulE B dX9_findRows_40 (pk_mul 3 mm_7) ?_
          refine s_aload_n B dX9_findRows_41 rfl 0 rfl ?_
          refine s_get (T := TX9) B inX9 0 rfl rfl 2 (Nat.le_of_ble_eq_true rfl) fl_X9_13 rfl rfl dX9_findRows_42 ?_
          refine s_aload_n B dX9_findRows_45 rfl 0 rfl ?_
          refine s_get (T := TX9) B inX9 0 rfl rfl 3 (Nat.le_of_ble_eq_true rfl) fl_X9_222 rfl rfl dX9_findRows_46 ?_
          refine s_ialdN B 2 0 rfl rfl dX9_findRows_49 (by omega) (by decide) ?_
          refine s_st (st' := [.int (nI d_15), .int (nI (3 * mm_7)), .ref (b 15)]) (by rw [hr__17]) ?_
          refine s_iastN (ws' := [_, _, _, _, _, _]) B 5 0 rfl rfl rfl dX9_findRows_50 (by omega) (by decide) ?_
          refine s_aload_n B dX9_findRows_51 rfl 0 rfl ?_
          refine s_get (T := TX9) B inX9 0 rfl rfl 26 (Nat.le_of_ble_eq_true rfl) fl_X9_56 rfl rfl dX9_findRows_52 ?_
          refine s_iconst B dX9_findRows_55 ic_3 ?_
          refine s_aload_n B dX9_findRows_56 rfl 0 rfl ?_
          refine s_get (T := TX9) B inX9 0 rfl rfl 28 (Nat.le_of_ble_eq_true rfl) fl_X9_257 rfl rfl dX9_findRows_57 ?_
          refine s_imulE B dX9_findRows_60 (pk_mul 3 mm_7) ?_
          refine s_iconst B dX9_findRows_61 ic_1 ?_
          refine s_iaddE B dX9_findRows_62 (nI_add (3 * mm_7) 1) ?_
          refine s_aload_n B dX9_findRows_63 rfl 0 rfl ?_
          refine s_callVi B hsc (c_X9_dayGoes l D g b I W n 25 t q mm_7 bd a_child a_row_9 a_events a_laws (by omega) (by omega) (by omega) (by omega) (by omega) (by omega) ok_a_row_9 (by first | assumption | decide | (intro h9; first | assumption | exact absurd h9 (by decide)) | omega | rfl | (refine ⟨_, ?_, by assumption⟩; omega) | (clear hQ B hr hsc; grind))) (gw_V ml_X9_238 im_yX9_dayGoes se_yX9_dayGoes ini_RX9 co_yX9_dayGoes) hd_X9_dayGoes rfl rfl ⟨(Nat.le_of_ble_eq_true rfl), (Nat.le_of_ble_eq_true rfl)⟩ [0, 1, 2, 3, 4] [0, 1, 2, 3, 4] rfl rfl rfl (ci := 9) (q0 := 0) rfl rfl rfl rfl rfl (Nat.le_of_ble_eq_true rfl) dX9_findRows_64 (fun r_18 u_19 hpo => ?_)
          obtain ⟨a_row_20, ok_a_row_20, hf_21, hf_22, hf_23, hf_24, rfl⟩ := hpo
          refine s_ws (ws' := [(b 0, .inr (9, [.int (nI n), .ref (b 1), .ref (b 2), .int (nI 25), .ref (b 3), .ref (b 4), .ref (b 5), .ref (b 6), .ref (b 7), .ref (b 8), .int (I 10), .ref (b 9), .int (nI t), .int (I 13), .int (I 14), .int (I 15), .long W, .int (I 17), .int (I 18), .int (I 19), .int (I 20), .ref (b 10), .ref (b 11), .ref (b 12), .ref (b 13), .ref (b 14), .ref (b 15), .int (nI q), .int (nI mm_7), .ref (b 16), .ref (b 17), .ref (b 18), .ref (b 19), .ref (b 20), .ref (b 21), .int (I 35), .int (I 36), .int (I 37), .ref (b 22), .int (nI bd), .int (I 40), .int (I 41), .ref (b 23), .int (I 43), .ref (b 24)])), (b 1, .inl (g 0, 32, .inl a_child)), (b 2, .inl (g 0, 50, .inl a_row_20)), (b 3, .inl (g 0, 40, .inl a_events)), (b 6, .inl (g 0, 4, .inl a_laws)), (b 15, .inl (g 0, 60, .inl (upd a_must_10 (3 * mm_7) (nI d_15))))]) rfl ?_
          refine s_iastN (ws' := [_, _, _, _, _, _]) B 5 0 rfl rfl rfl dX9_findRows_67 (by omega) (by decide) ?_
          refine s_aload_n B dX9_findRows_68 rfl 0 rfl ?_
          refine s_get (T := TX9) B inX9 0 rfl rfl 26 (Nat.le_of_ble_eq_true rfl) fl_X9_56 rfl rfl dX9_findRows_69 ?_
          refine s_iconst B dX9_findRows_72 ic_3 ?_
          refine s_aload_n B dX9_findRows_73 rfl 0 rfl ?_
          refine s_get (T := TX9) B inX9 0 rfl rfl 28 (Nat.le_of_ble_eq_true rfl) fl_X9_257 rfl rfl dX9_findRows_74 ?_
          refine s_imulE B dX9_findRows_77 (pk_mul 3 mm_7) ?_
          refine s_iconst B dX9_findRows_78 ic_2 ?_
          refine s_iaddE B dX9_findRows_79 (nI_add (3 * mm_7) 2) ?_
          refine s_aload_n B dX9_findRows_80 rfl 0 rfl ?_
          refine s_callVi B hsc (c_X9_sickSet l D g b (upd (upd (upd (upd I 12 (nI t)) 27 (nI q)) 28 (nI mm_7)) 39 (nI bd)) W n 25 a_row_20 (by omega) (by omega)) (gw_V ml_X9_232 im_yX9_sickSet se_yX9_sickSet ini_RX9 co_yX9_sickSet) hd_X9_sickSet rfl rfl ⟨(Nat.le_of_ble_eq_true rfl), (Nat.le_of_ble_eq_true rfl)⟩ [0, 2] [0, 1, 2, 3, 4] rfl rfl rfl (ci := 9) (q0 := 0) rfl rfl rfl rfl rfl (Nat.le_of_ble_eq_true rfl) dX9_findRows_81 (fun r_25 u_26 hpo => ?_)
          obtain ⟨rfl, rfl⟩ := hpo
          refine s_st (st' := [.int (mSick (xR a_row_20 (25 + 1)) n), .int (nI ((3 * mm_7) + 2)), .ref (b 15)]) rfl ?_
          refine s_ws (ws' := [(b 0, .inr (9, [.int (nI n), .ref (b 1), .ref (b 2), .int (nI 25), .ref (b 3), .ref (b 4), .ref (b 5), .ref (b 6), .ref (b 7), .ref (b 8), .int (I 10), .ref (b 9), .int (nI t), .int (I 13), .int (I 14), .int (I 15), .long W, .int (I 17), .int (I 18), .int (I 19), .int (I 20), .ref (b 10), .ref (b 11), .ref (b 12), .ref (b 13), .ref (b 14), .ref (b 15), .int (nI q), .int (nI mm_7), .ref (b 16), .ref (b 17), .ref (b 18), .ref (b 19), .ref (b 20), .ref (b 21), .int (I 35), .int (I 36), .int (I 37), .ref (b 22), .int (nI bd), .int (I 40), .int (I 41), .ref (b 23), .int (I 43), .ref (b 24)])), (b 1, .inl (g 0, 32, .inl a_child)), (b 2, .inl (g 0, 50, .inl a_row_20)), (b 3, .inl (g 0, 40, .inl a_events)), (b 6, .inl (g 0, 4, .inl a_laws)), (b 15, .inl (g 0, 60, .inl (upd (upd a_must_10 (3 * mm_7) (nI d_15)) ((3 * mm_7) + 1) r_18)))]) rfl ?_
          refine s_iastN (ws' := [_, _, _, _, _, _]) B 5 0 rfl rfl rfl dX9_findRows_84 (by omega) (by decide) ?_
          refine s_aload_n B dX9_findRows_85 rfl 0 rfl ?_
          refine s_dup B dX9_findRows_86 rfl ?_
          refine s_get (T := TX9) B inX9 0 rfl rfl 28 (Nat.le_of_ble_eq_true rfl) fl_X9_257 rfl rfl dX9_findRows_87 ?_
          refine s_iconst B dX9_findRows_90 ic_1 ?_
          refine s_iaddE B dX9_findRows_91 (nI_add mm_7 1) ?_
          refine s_put (T := TX9) (ws' := [_, _, _, _, _, _]) B inX9 tyX9_ok nmX9 0 rfl rfl 28 (Nat.le_of_ble_eq_true rfl) fl_X9_257 rfl rfl rfl rfl (Nat.le_of_ble_eq_true rfl) rfl dX9_findRows_92 ?_
          refine s_goto (tgt := 9) B dX9_findRows_95 rfl ?_
          refine s_lv (lv' := [(0, _), (1, _)]) [0, 1] rfl ?_
          exact ih9 (mm_7 + 1) a_row_20 (upd (upd (upd a_must_10 (3 * mm_7) (nI d_15)) ((3 * mm_7) + 1) r_18) ((3 * mm_7) + 2) (mSick (xR a_row_20 (25 + 1)) n)) (by omega) hpre0 (by omega) ok_a_row_20 ((hf_22 rfl).trans (hz_11.trans rfl)) (fun j hj => ((hf_24 rfl j hj).trans ((hy_12 j hj).trans rfl))) (by omega) (fun d hd h nn => go_fr hn (hQ_14 d hd h nn) hr__17 (by omega) (by assumption) hf_23)
  refine s_aload_n B dX9_findRows_0 rfl 0 rfl ?_
  refine s_callVv B hsc (c_X9_lends l D g b I W n p0 t q mm bd a_row (by omega) (by omega) (by omega) (by omega) (by omega) (by omega) ok_a_row) (gw_V ml_X9_247 im_yX9_lends se_yX9_lends ini_RX9 co_yX9_lends) hd_X9_lends rfl rfl ⟨(Nat.le_of_ble_eq_true rfl), (Nat.le_of_ble_eq_true rfl)⟩ [0, 2] [0, 1, 2, 3, 4] rfl rfl rfl (ci := 9) (q0 := 0) rfl rfl rfl rfl rfl (Nat.le_of_ble_eq_true rfl) dX9_findRows_1 (fun u_2 hpo => ?_)
  obtain ⟨a_row_3, ok_a_row_3, hf_4, hf_5, hf_6, rfl⟩ := hpo
  refine s_ws (ws' := [(b 0, .inr (9, [.int (nI n), .ref (b 1), .ref (b 2), .int (nI 25), .ref (b 3), .ref (b 4), .ref (b 5), .ref (b 6), .ref (b 7), .ref (b 8), .int (I 10), .ref (b 9), .int (nI t), .int (I 13), .int (I 14), .int (I 15), .long W, .int (I 17), .int (I 18), .int (I 19), .int (I 20), .ref (b 10), .ref (b 11), .ref (b 12), .ref (b 13), .ref (b 14), .ref (b 15), .int (nI q), .int (nI mm), .ref (b 16), .ref (b 17), .ref (b 18), .ref (b 19), .ref (b 20), .ref (b 21), .int (I 35), .int (I 36), .int (I 37), .ref (b 22), .int (nI bd), .int (I 40), .int (I 41), .ref (b 23), .int (I 43), .ref (b 24)])), (b 1, .inl (g 0, 32, .inl a_child)), (b 2, .inl (g 0, 50, .inl a_row_3)), (b 3, .inl (g 0, 40, .inl a_events)), (b 6, .inl (g 0, 4, .inl a_laws)), (b 15, .inl (g 0, 60, .inl a_must))]) rfl ?_
  refine s_aload_n B dX9_findRows_4 rfl 0 rfl ?_
  refine s_iconst B dX9_findRows_5 ic_0 ?_
  refine s_put (T := TX9) (ws' := [_, _, _, _, _, _]) B inX9 tyX9_ok nmX9 0 rfl rfl 28 (Nat.le_of_ble_eq_true rfl) fl_X9_257 rfl rfl rfl rfl (Nat.le_of_ble_eq_true rfl) rfl dX9_findRows_6 ?_
  refine s_lv (lv' := [(0, _), (1, _)]) [0, 1] rfl ?_
  refine s_ws (ws' := [(b 0, .inr (9, [.int (nI n), .ref (b 1), .ref (b 2), .int (nI 25), .ref (b 3), .ref (b 4), .ref (b 5), .ref (b 6), .ref (b 7), .ref (b 8), .int (I 10), .ref (b 9), .int (nI t), .int (I 13), .int (I 14), .int (I 15), .long W, .int (I 17), .int (I 18), .int (I 19), .int (I 20), .ref (b 10), .ref (b 11), .ref (b 12), .ref (b 13), .ref (b 14), .ref (b 15), .int (nI q), .int (nI 0), .ref (b 16), .ref (b 17), .ref (b 18), .ref (b 19), .ref (b 20), .ref (b 21), .int (I 35), .int (I 36), .int (I 37), .ref (b 22), .int (nI bd), .int (I 40), .int (I 41), .ref (b 23), .int (I 43), .ref (b 24)])), (b 1, .inl (g 0, 32, .inl a_child)), (b 2, .inl (g 0, 50, .inl a_row_3)), (b 3, .inl (g 0, 40, .inl a_events)), (b 6, .inl (g 0, 4, .inl a_laws)), (b 15, .inl (g 0, 60, .inl a_must))]) (by rfl) ?_
  exact L9 _ 0 a_row_3 a_must (Nat.lt_succ_self _) hpre0 (by omega) ok_a_row_3 (hf_4.trans rfl) (fun j hj => ((hf_5 j hj).trans rfl)) (by omega) (fun d hd h nn => ⟨⟨GoB_0 hn hf_6 h nn, by omega⟩, MuR_0⟩)
def rmX9_prove : Room := { frames := 6, cells := 0, slots := 0, locals := 140 }
theorem hd_X9_prove : yX9_prove.cls = RX9 ∧ yX9_prove.cls ≠ "java/lang/invoke/MethodHandle" ∧ yX9_prove.cls ≠ "java/lang/invoke/VarHandle" ∧ (parseMethodDescriptor yX9_prove.desc).map (fun d => d.parameters.length) = some 1 := by decide +kernel
set_option maxHeartbeats 4000000 in
set_option maxRecDepth 100000 in
theorem c_X9_prove (l : Launch) (D : va_G) (g : Nat → ClassId) (b : Nat → Nat) (I : Nat → Int32) (W : Int64) (n p0 t q mm bd : Nat) (a_child : Nat → Int32) (a_row : Nat → Int32) (a_events : Nat → Int32) (a_laws : Nat → Int32) (a_must : Nat → Int32) (a_rows : Nat → Int32) (n0 : Int32) (hn : n ≤ 8) (hp : p0 = 0 ∨ p0 = 25) (ht : t ≤ 240) (hq0 : q ≤ 20) (hmm : mm ≤ 20) (hbd : bd ≤ 30) (ok_a_row : RowOk a_row) : Ci l yX9_prove (WW yX9_prove cX9_prove 3 (some FieldType.int)) rmX9_prove D vwCl (TY g) [.ref (b 0), .int n0] [(b 0, .inr (9, [.int (nI n), .ref (b 1), .ref (b 2), .int (nI 0), .ref (b 3), .ref (b 4), .ref (b 5), .ref (b 6), .ref (b 7), .ref (b 8), .int (I 10), .ref (b 9), .int (nI t), .int (I 13), .int (I 14), .int (I 15), .long W, .int (I 17), .int (I 18), .int (I 19), .int (I 20), .ref (b 10), .ref (b 11), .ref (b 12), .ref (b 13), .ref (b 14), .ref (b 15), .int (nI q), .int (nI mm), .ref (b 16), .ref (b 17), .ref (b 18), .ref (b 19), .ref (b 20), .ref (b 21), .int (I 35), .int (I 36), .int (I 37), .ref (b 22), .int (nI bd), .int (I 40), .int (I 41), .ref (b 23), .int (I 43), .ref (b 24)])), (b 1, .inl (g 0, 32, .inl a_child)), (b 2, .inl (g 0, 50, .inl a_row)), (b 3, .inl (g 0, 40, .inl a_events)), (b 6, .inl (g 0, 4, .inl a_laws)), (b 15, .inl (g 0, 60, .inl a_must)), (b 14, .inl (g 0, 60, .inl a_rows))] (fun r u => ∃ (a_row' : Nat → Int32) (a_must' : Nat → Int32) (mm' : Nat) (q' : Nat) (a_rows' : Nat → Int32), (RowOk a_row') ∧ (mm' ≤ 20) ∧ (q' ≤ 20) ∧ (a_row' 0 = a_row 0) ∧ (∀ j : Nat, j < 25 → a_row' j = a_row j) ∧ (∀ (G : MG) (W : MW) (cr9 tr9 : MA), RG G n a_child a_row a_events cr9 tr9 a_laws (I 10) → RwR W q a_rows → RwR (gProve n0 G W) q' a_rows' ∧ r = aProve n0 G) ∧ u = [(b 0, .inr (9, [.int (nI n), .ref (b 1), .ref (b 2), .int (nI 0), .ref (b 3), .ref (b 4), .ref (b 5), .ref (b 6), .ref (b 7), .ref (b 8), .int (I 10), .ref (b 9), .int (nI t), .int (I 13), .int (I 14), .int (I 15), .long W, .int (I 17), .int (I 18), .int (I 19), .int (I 20), .ref (b 10), .ref (b 11), .ref (b 12), .ref (b 13), .ref (b 14), .ref (b 15), .int (nI q'), .int (nI mm'), .ref (b 16), .ref (b 17), .ref (b 18), .ref (b 19), .ref (b 20), .ref (b 21), .int (I 35), .int (I 36), .int (I 37), .ref (b 22), .int (nI bd), .int (I 40), .int (I 41), .ref (b 23), .int (I 43), .ref (b 24)])), (b 1, .inl (g 0, 32, .inl a_child)), (b 2, .inl (g 0, 50, .inl a_row')), (b 3, .inl (g 0, 40, .inl a_events)), (b 6, .inl (g 0, 4, .inl a_laws)), (b 15, .inl (g 0, 60, .inl a_must')), (b 14, .inl (g 0, 60, .inl a_rows'))]) := by
  refine ci_in (by decide) (Nat.le_of_ble_eq_true rfl) (a0 := [b 0, b 1, b 2, b 3, b 6, b 15, b 14]) rfl (fun p e s m args below meth c A Q hQ B hr hsc => ?_)
  refine s_iload_n B dX9_prove_0 rfl 1 rfl ?_
  refine s_iconst B dX9_prove_1 ic_1 ?_
  refine s_bipush B dX9_prove_2 bp_20 ?_
  refine s_callSi B hsc (c_X9_in l D g n0 1 20) (gw_S ml_X9_87 sm_yX9_in ini_RX9 co_yX9_in) hd_X9_in rfl rfl ⟨(Nat.le_of_ble_eq_true rfl), (Nat.le_of_ble_eq_true rfl)⟩ [] [0, 1, 2, 3, 4] rfl rfl rfl rfl rfl (Nat.le_of_ble_eq_true rfl) dX9_prove_4 (fun r_1 u_2 hpo => ?_)
  obtain ⟨rfl, rfl⟩ := hpo
  refine s_st (st' := [.int (if ¬ n0 < 1 ∧ ¬ 20 < n0 then 1 else 0)]) rfl ?_
  refine s_ws (ws' := [(b 0, .inr (9, [.int (nI n), .ref (b 1), .ref (b 2), .int (nI 0), .ref (b 3), .ref (b 4), .ref (b 5), .ref (b 6), .ref (b 7), .ref (b 8), .int (I 10), .ref (b 9), .int (nI t), .int (I 13), .int (I 14), .int (I 15), .long W, .int (I 17), .int (I 18), .int (I 19), .int (I 20), .ref (b 10), .ref (b 11), .ref (b 12), .ref (b 13), .ref (b 14), .ref (b 15), .int (nI q), .int (nI mm), .ref (b 16), .ref (b 17), .ref (b 18), .ref (b 19), .ref (b 20), .ref (b 21), .int (I 35), .int (I 36), .int (I 37), .ref (b 22), .int (nI bd), .int (I 40), .int (I 41), .ref (b 23), .int (I 43), .ref (b 24)])), (b 1, .inl (g 0, 32, .inl a_child)), (b 2, .inl (g 0, 50, .inl a_row)), (b 3, .inl (g 0, 40, .inl a_events)), (b 6, .inl (g 0, 4, .inl a_laws)), (b 15, .inl (g 0, 60, .inl a_must)), (b 14, .inl (g 0, 60, .inl a_rows))]) rfl ?_
  refine s_bif_ne (tgt := 12) B dX9_prove_7 rfl (fun h7 => ?_) (fun h7 => ?_)
  · obtain ⟨k_3, hk_4, rfl⟩ := nat_le1 (N := 20) h7.1 h7.2 (by decide)
    have L27 : ∀ (jj27 : Nat) (k_14 : Nat) (q_16 : Nat) (mm_18 : Nat) (a_row_20 : Nat → Int32) (a_must_21 : Nat → Int32) (a_rows_22 : Nat → Int32), 60 - k_14 < jj27 → (¬ (nI k_3) < 1 ∧ ¬ 20 < (nI k_3)) → (1 ≤ k_3 ∧ k_3 ≤ 20) → (k_14 ≤ 60) → (q_16 ≤ 20) → (mm_18 ≤ 20) → (RowOk a_row_20) → (a_row_20 0 = a_row 0) → (∀ j : Nat, j < 25 → a_row_20 j = a_row j) → (k_14 ≤ 3 * q_16) → (∀ d : Nat, d ≤ 40 → a_row 0 = nI d → NNr a_row a_laws n 0 → q_16 = min k_3 (40 - d) ∧ MuR a_must_21 a_child a_events a_laws n d (s3R a_row 0) q_16) → (∀ j : Nat, j < k_14 → a_rows_22 j = a_must_21 j) → Sx p l e rmX9_prove s m args below meth c D vwCl A 3 Q 27 [(0, .ref (b 0)), (2, .int (nI k_14))] [] [(b 0, .inr (9, [.int (nI n), .ref (b 1), .ref (b 2), .int (nI 0), .ref (b 3), .ref (b 4), .ref (b 5), .ref (b 6), .ref (b 7), .ref (b 8), .int (I 10), .ref (b 9), .int (nI t), .int (I 13), .int (I 14), .int (I 15), .long W, .int (I 17), .int (I 18), .int (I 19), .int (I 20), .ref (b 10), .ref (b 11), .ref (b 12), .ref (b 13), .ref (b 14), .ref (b 15), .int (nI q_16), .int (nI mm_18), .ref (b 16), .ref (b 17), .ref (b 18), .ref (b 19), .ref (b 20), .ref (b 21), .int (I 35), .int (I 36), .int (I 37), .ref (b 22), .int (nI bd), .int (I 40), .int (I 41), .ref (b 23), .int (I 43), .ref (b 24)])), (b 1, .inl (g 0, 32, .inl a_child)), (b 2, .inl (g 0, 50, .inl a_row_20)), (b 3, .inl (g 0, 40, .inl a_events)), (b 6, .inl (g 0, 4, .inl a_laws)), (b 15, .inl (g 0, 60, .inl a_must_21)), (b 14, .inl (g 0, 60, .inl a_rows_22))] := by
      intro jj27
      induction jj27 with
      | zero => intro k_14 q_16 mm_18 a_row_20 a_must_21 a_rows_22 hj; exact absurd hj (Nat.not_lt_zero _)
      | succ jj27 ih27 =>
        intro k_14 q_16 mm_18 a_row_20 a_must_21 a_rows_22 hj27 h7 hk_4 h_15 h_17 h_19 ok_a_row_20 hz_23 hy_24 hj_25 hQ_26 hC_27
        refine s_iload_n B dX9_prove_27 rfl 1 rfl ?_
        refine s_iconst B dX9_prove_28 ic_3 ?_
        refine s_aload_n B dX9_prove_29 rfl 0 rfl ?_
        refine s_get (T := TX9) B inX9 0 rfl rfl 27 (Nat.le_of_ble_eq_true rfl) fl_X9_199 rfl rfl dX9_prove_30 ?_
        refine s_imulE B dX9_prove_33 (pk_mul 3 q_16) ?_
        refine s_icmp_ge (tgt := 55) B dX9_prove_34 rfl (fun h34 => ?_) (fun h34 => ?_)
        · replace h34 : (3 * q_16) ≤ k_14 := (nI_leI (a := (3 * q_16)) (b := k_14) (by omega) (by omega)).mp h34
          refine s_aload_n B dX9_prove_55 rfl 0 rfl ?_
          refine s_get (T := TX9) B inX9 0 rfl rfl 27 (Nat.le_of_ble_eq_true rfl) fl_X9_199 rfl rfl dX9_prove_56 ?_
          refine s_iret B hQ hr dX9_prove_59 rfl ?_
          exact ⟨a_row_20, a_must_21, mm_18, q_16, a_rows_22, ok_a_row_20, by omega, by omega, (hz_23.trans rfl), (fun j hj => ((hy_24 j hj).trans rfl)), (fun G W cr9 tr9 H hW => (H.prove_ok (by omega) (by omega) (hQ_26 (gTd G) H.td.2 H.td.1 H.nn).1 (hQ_26 (gTd G) H.td.2 H.td.1 H.nn).2 (fun j hj => hC_27 j (by omega)))), rfl⟩
        · replace h34 : ¬ (3 * q_16) ≤ k_14 := fun hh => h34 ((nI_leI (a := (3 * q_16)) (b := k_14) (by omega) (by omega)).mpr hh)
          refine s_aload_n B dX9_prove_37 rfl 0 rfl ?_
          refine s_get (T := TX9) B inX9 0 rfl rfl 25 (Nat.le_of_ble_eq_true rfl) fl_X9_53 rfl rfl dX9_prove_38 ?_
          refine s_iload_n B dX9_prove_41 rfl 1 rfl ?_
          refine s_aload_n B dX9_prove_42 rfl 0 rfl ?_
          refine s_get (T := TX9) B inX9 0 rfl rfl 26 (Nat.le_of_ble_eq_true rfl) fl_X9_56 rfl rfl dX9_prove_43 ?_
          refine s_iload_n B dX9_prove_46 rfl 1 rfl ?_
          refine s_ialdN B 5 0 rfl rfl dX9_prove_47 (by omega) (by decide) ?_
          refine s_iastN (ws' := [_, _, _, _, _, _, _]) B 6 0 rfl rfl rfl dX9_prove_48 (by omega) (by decide) ?_
          refine s_iinc (lv' := [(2, _), (0, _)]) (k := 1) B dX9_prove_49 rfl (ii_n _) (Nat.le_of_ble_eq_true rfl) rfl ?_
          refine s_goto (tgt := 27) B dX9_prove_52 rfl ?_
          refine s_lv (lv' := [(0, _), (2, _)]) [1, 0] rfl ?_
          exact ih27 (k_14 + 1) q_16 mm_18 a_row_20 a_must_21 (upd a_rows_22 k_14 (a_must_21 k_14)) (by omega) h7 hk_4 (by omega) (by omega) (by omega) ok_a_row_20 (hz_23.trans rfl) (fun j hj => ((hy_24 j hj).trans rfl)) (by omega) hQ_26 (cp_s hC_27 rfl)
    refine s_aload_n B dX9_prove_12 rfl 0 rfl ?_
    refine s_iload_n B dX9_prove_13 rfl 1 rfl ?_
    refine s_callVv B hsc (c_X9_findRows l D g b I W n 0 t q mm bd a_child a_row a_events a_laws a_must k_3 (by omega) (by omega) (by omega) (by omega) (by omega) (by omega) ok_a_row (by first | assumption | decide | (intro h9; first | assumption | exact absurd h9 (by decide)) | omega | rfl | (refine ⟨_, ?_, by assumption⟩; omega) | (clear hQ B hr hsc; grind))) (gw_V ml_X9_260 im_yX9_findRows se_yX9_findRows ini_RX9 co_yX9_findRows) hd_X9_findRows rfl rfl ⟨(Nat.le_of_ble_eq_true rfl), (Nat.le_of_ble_eq_true rfl)⟩ [0, 1, 2, 3, 4, 5] [0, 1, 2, 3, 4] rfl rfl rfl (ci := 9) (q0 := 0) rfl rfl rfl rfl rfl (Nat.le_of_ble_eq_true rfl) dX9_prove_14 (fun u_6 hpo => ?_)
    obtain ⟨a_row_7, a_must_8, mm_9, ok_a_row_7, hf_10, hf_11, hf_12, hf_13, rfl⟩ := hpo
    refine s_ws (ws' := [(b 0, .inr (9, [.int (nI n), .ref (b 1), .ref (b 2), .int (nI 0), .ref (b 3), .ref (b 4), .ref (b 5), .ref (b 6), .ref (b 7), .ref (b 8), .int (I 10), .ref (b 9), .int (nI t), .int (I 13), .int (I 14), .int (I 15), .long W, .int (I 17), .int (I 18), .int (I 19), .int (I 20), .ref (b 10), .ref (b 11), .ref (b 12), .ref (b 13), .ref (b 14), .ref (b 15), .int (nI q), .int (nI mm_9), .ref (b 16), .ref (b 17), .ref (b 18), .ref (b 19), .ref (b 20), .ref (b 21), .int (I 35), .int (I 36), .int (I 37), .ref (b 22), .int (nI bd), .int (I 40), .int (I 41), .ref (b 23), .int (I 43), .ref (b 24)])), (b 1, .inl (g 0, 32, .inl a_child)), (b 2, .inl (g 0, 50, .inl a_row_7)), (b 3, .inl (g 0, 40, .inl a_events)), (b 6, .inl (g 0, 4, .inl a_laws)), (b 15, .inl (g 0, 60, .inl a_must_8)), (b 14, .inl (g 0, 60, .inl a_rows))]) rfl ?_
    refine s_aload_n B dX9_prove_17 rfl 0 rfl ?_
    refine s_aload_n B dX9_prove_18 rfl 0 rfl ?_
    refine s_get (T := TX9) B inX9 0 rfl rfl 28 (Nat.le_of_ble_eq_true rfl) fl_X9_257 rfl rfl dX9_prove_19 ?_
    refine s_put (T := TX9) (ws' := [_, _, _, _, _, _, _]) B inX9 tyX9_ok nmX9 0 rfl rfl 27 (Nat.le_of_ble_eq_true rfl) fl_X9_199 rfl rfl rfl rfl (Nat.le_of_ble_eq_true rfl) rfl dX9_prove_22 ?_
    refine s_iconst B dX9_prove_25 ic_0 ?_
    refine s_istore_n (lv' := [(2, _), (0, _), (1, _)]) B dX9_prove_26 rfl (Nat.le_of_ble_eq_true rfl) rfl ?_
    refine s_lv (lv' := [(0, _), (2, _)]) [1, 0] rfl ?_
    refine s_lve (lv' := [(0, .ref (b 0)), (2, .int (nI 0))]) (by first | rfl | (simp only [if_pos, if_neg]; done)) ?_
    exact L27 _ 0 mm_9 mm_9 a_row_7 a_must_8 a_rows (Nat.lt_succ_self _) h7 hk_4 (by omega) (by omega) (by omega) ok_a_row_7 (hf_11.trans rfl) (fun j hj => ((hf_12 j hj).trans rfl)) (by omega) hf_13 (fun j hj => absurd hj (Nat.not_lt_zero j))
  · refine s_iconst B dX9_prove_10 ic_m1 ?_
    refine s_iret B hQ hr dX9_prove_11 rfl ?_
    exact ⟨a_row, a_must, mm, q, a_rows, ok_a_row, by omega, by omega, rfl, (fun j hj => rfl), (fun G W cr9 tr9 H hW => (H.prove_no (by first | assumption | (clear hQ B hr hsc; grind)) hW)), rfl⟩
def rmX9_isRow : Room := { frames := 1, cells := 0, slots := 0, locals := 22 }
theorem hd_X9_isRow : yX9_isRow.cls = RX9 ∧ yX9_isRow.cls ≠ "java/lang/invoke/MethodHandle" ∧ yX9_isRow.cls ≠ "java/lang/invoke/VarHandle" ∧ (parseMethodDescriptor yX9_isRow.desc).map (fun d => d.parameters.length) = some 2 := by decide +kernel
set_option maxHeartbeats 4000000 in
set_option maxRecDepth 100000 in
theorem c_X9_isRow (l : Launch) (D : va_G) (g : Nat → ClassId) (b : Nat → Nat) (I : Nat → Int32) (W : Int64) (n p0 t q mm bd : Nat)  (i0 : Int32) (w0 : Int32) (hn : n ≤ 8) (hp : p0 = 0 ∨ p0 = 25) (ht : t ≤ 240) (hq0 : q ≤ 20) (hmm : mm ≤ 20) (hbd : bd ≤ 30) : Ci l yX9_isRow (WW yX9_isRow cX9_isRow 3 (some FieldType.boolean)) rmX9_isRow D vwCl (TY g) [.ref (b 0), .int i0, .int w0] [(b 0, .inr (9, [.int (nI n), .ref (b 1), .ref (b 2), .int (nI p0), .ref (b 3), .ref (b 4), .ref (b 5), .ref (b 6), .ref (b 7), .ref (b 8), .int (I 10), .ref (b 9), .int (nI t), .int (I 13), .int (I 14), .int (I 15), .long W, .int (I 17), .int (I 18), .int (I 19), .int (I 20), .ref (b 10), .ref (b 11), .ref (b 12), .ref (b 13), .ref (b 14), .ref (b 15), .int (nI q), .int (nI mm), .ref (b 16), .ref (b 17), .ref (b 18), .ref (b 19), .ref (b 20), .ref (b 21), .int (I 35), .int (I 36), .int (I 37), .ref (b 22), .int (nI bd), .int (I 40), .int (I 41), .ref (b 23), .int (I 43), .ref (b 24)]))] (fun r u => r = (if (¬ i0 < 0 ∧ ¬ nI q - 1 < i0) ∧ (¬ w0 < 0 ∧ ¬ 2 < w0) then 1 else 0) ∧ u = [(b 0, .inr (9, [.int (nI n), .ref (b 1), .ref (b 2), .int (nI p0), .ref (b 3), .ref (b 4), .ref (b 5), .ref (b 6), .ref (b 7), .ref (b 8), .int (I 10), .ref (b 9), .int (nI t), .int (I 13), .int (I 14), .int (I 15), .long W, .int (I 17), .int (I 18), .int (I 19), .int (I 20), .ref (b 10), .ref (b 11), .ref (b 12), .ref (b 13), .ref (b 14), .ref (b 15), .int (nI q), .int (nI mm), .ref (b 16), .ref (b 17), .ref (b 18), .ref (b 19), .ref (b 20), .ref (b 21), .int (I 35), .int (I 36), .int (I 37), .ref (b 22), .int (nI bd), .int (I 40), .int (I 41), .ref (b 23), .int (I 43), .ref (b 24)]))]) := by
  refine ci_in (by decide) (Nat.le_of_ble_eq_true rfl) (a0 := [b 0]) rfl (fun p e s m args below meth c A Q hQ B hr hsc => ?_)
  refine s_iload_n B dX9_isRow_0 rfl 1 rfl ?_
  refine s_iconst B dX9_isRow_1 ic_0 ?_
  refine s_aload_n B dX9_isRow_2 rfl 0 rfl ?_
  refine s_get (T := TX9) B inX9 0 rfl rfl 27 (Nat.le_of_ble_eq_true rfl) fl_X9_199 rfl rfl dX9_isRow_3 ?_
  refine s_iconst B dX9_isRow_6 ic_1 ?_
  refine s_isub B dX9_isRow_7 ?_
  refine s_callSi B hsc (c_X9_in l D g i0 0 ((nI q) - 1)) (gw_S ml_X9_87 sm_yX9_in ini_RX9 co_yX9_in) hd_X9_in rfl rfl ⟨(Nat.le_of_ble_eq_true rfl), (Nat.le_of_ble_eq_true rfl)⟩ [] [0, 1, 2, 3, 4] rfl rfl rfl rfl rfl (Nat.le_of_ble_eq_true rfl) dX9_isRow_8 (fun r_1 u_2 hpo => ?_)
  obtain ⟨rfl, rfl⟩ := hpo
  refine s_st (st' := [.int (if ¬ i0 < 0 ∧ ¬ ((nI q) - 1) < i0 then 1 else 0)]) rfl ?_
  refine s_ws (ws' := [(b 0, .inr (9, [.int (nI n), .ref (b 1), .ref (b 2), .int (nI p0), .ref (b 3), .ref (b 4), .ref (b 5), .ref (b 6), .ref (b 7), .ref (b 8), .int (I 10), .ref (b 9), .int (nI t), .int (I 13), .int (I 14), .int (I 15), .long W, .int (I 17), .int (I 18), .int (I 19), .int (I 20), .ref (b 10), .ref (b 11), .ref (b 12), .ref (b 13), .ref (b 14), .ref (b 15), .int (nI q), .int (nI mm), .ref (b 16), .ref (b 17), .ref (b 18), .ref (b 19), .ref (b 20), .ref (b 21), .int (I 35), .int (I 36), .int (I 37), .ref (b 22), .int (nI bd), .int (I 40), .int (I 41), .ref (b 23), .int (I 43), .ref (b 24)]))]) rfl ?_
  refine s_bif_eq (tgt := 27) B dX9_isRow_11 rfl (fun h11 => ?_) (fun h11 => ?_)
  · refine s_iconst B dX9_isRow_27 ic_0 ?_
    refine s_zret B hQ hr dX9_isRow_28 rfl rfl ?_
    exact ⟨by first | assumption | decide | (intro h9; first | assumption | exact absurd h9 (by decide)) | omega | rfl | (refine ⟨_, ?_, by assumption⟩; omega) | (clear hQ B hr hsc; grind), rfl⟩
  · obtain ⟨k_3, hk_4, rfl⟩ := nat_lt1 (N := q) h11.1 h11.2 (by omega)
    refine s_iload_n B dX9_isRow_14 rfl 2 rfl ?_
    refine s_iconst B dX9_isRow_15 ic_0 ?_
    refine s_iconst B dX9_isRow_16 ic_2 ?_
    refine s_callSi B hsc (c_X9_in l D g w0 0 2) (gw_S ml_X9_87 sm_yX9_in ini_RX9 co_yX9_in) hd_X9_in rfl rfl ⟨(Nat.le_of_ble_eq_true rfl), (Nat.le_of_ble_eq_true rfl)⟩ [] [0, 1, 2, 3, 4] rfl rfl rfl rfl rfl (Nat.le_of_ble_eq_true rfl) dX9_isRow_17 (fun r_5 u_6 hpo => ?_)
    obtain ⟨rfl, rfl⟩ := hpo
    refine s_st (st' := [.int (if ¬ w0 < 0 ∧ ¬ 2 < w0 then 1 else 0)]) rfl ?_
    refine s_ws (ws' := [(b 0, .inr (9, [.int (nI n), .ref (b 1), .ref (b 2), .int (nI p0), .ref (b 3), .ref (b 4), .ref (b 5), .ref (b 6), .ref (b 7), .ref (b 8), .int (I 10), .ref (b 9), .int (nI t), .int (I 13), .int (I 14), .int (I 15), .long W, .int (I 17), .int (I 18), .int (I 19), .int (I 20), .ref (b 10), .ref (b 11), .ref (b 12), .ref (b 13), .ref (b 14), .ref (b 15), .int (nI q), .int (nI mm), .ref (b 16), .ref (b 17), .ref (b 18), .ref (b 19), .ref (b 20), .ref (b 21), .int (I 35), .int (I 36), .int (I 37), .ref (b 22), .int (nI bd), .int (I 40), .int (I 41), .ref (b 23), .int (I 43), .ref (b 24)]))]) rfl ?_
    refine s_bif_eq (tgt := 27) B dX9_isRow_20 rfl (fun h20 => ?_) (fun h20 => ?_)
    · refine s_iconst B dX9_isRow_27 ic_0 ?_
      refine s_zret B hQ hr dX9_isRow_28 rfl rfl ?_
      exact ⟨by first | assumption | decide | (intro h9; first | assumption | exact absurd h9 (by decide)) | omega | rfl | (refine ⟨_, ?_, by assumption⟩; omega) | (clear hQ B hr hsc; grind), rfl⟩
    · obtain ⟨k_7, hk_8, rfl⟩ := nat_le (N := 2) h20.1 h20.2 (by decide)
      refine s_iconst B dX9_isRow_23 ic_1 ?_
      refine s_goto (tgt := 28) B dX9_isRow_24 rfl ?_
      refine s_zret B hQ hr dX9_isRow_28 rfl rfl ?_
      exact ⟨by first | assumption | decide | (intro h9; first | assumption | exact absurd h9 (by decide)) | omega | rfl | (refine ⟨_, ?_, by assumption⟩; omega) | (clear hQ B hr hsc; grind), rfl⟩
def rmX9_row : Room := { frames := 2, cells := 0, slots := 0, locals := 44 }
theorem hd_X9_row : yX9_row.cls = RX9 ∧ yX9_row.cls ≠ "java/lang/invoke/MethodHandle" ∧ yX9_row.cls ≠ "java/lang/invoke/VarHandle" ∧ (parseMethodDescriptor yX9_row.desc).map (fun d => d.parameters.length) = some 2 := by decide +kernel
set_option maxHeartbeats 4000000 in
set_option maxRecDepth 100000 in
theorem c_X9_row (l : Launch) (D : va_G) (g : Nat → ClassId) (b : Nat → Nat) (I : Nat → Int32) (W : Int64) (n p0 t q mm bd : Nat) (a_rows : Nat → Int32) (i0 : Int32) (w0 : Int32) (hn : n ≤ 8) (hp : p0 = 0 ∨ p0 = 25) (ht : t ≤ 240) (hq0 : q ≤ 20) (hmm : mm ≤ 20) (hbd : bd ≤ 30) : Ci l yX9_row (WW yX9_row cX9_row 3 (some FieldType.int)) rmX9_row D vwCl (TY g) [.ref (b 0), .int i0, .int w0] [(b 0, .inr (9, [.int (nI n), .ref (b 1), .ref (b 2), .int (nI p0), .ref (b 3), .ref (b 4), .ref (b 5), .ref (b 6), .ref (b 7), .ref (b 8), .int (I 10), .ref (b 9), .int (nI t), .int (I 13), .int (I 14), .int (I 15), .long W, .int (I 17), .int (I 18), .int (I 19), .int (I 20), .ref (b 10), .ref (b 11), .ref (b 12), .ref (b 13), .ref (b 14), .ref (b 15), .int (nI q), .int (nI mm), .ref (b 16), .ref (b 17), .ref (b 18), .ref (b 19), .ref (b 20), .ref (b 21), .int (I 35), .int (I 36), .int (I 37), .ref (b 22), .int (nI bd), .int (I 40), .int (I 41), .ref (b 23), .int (I 43), .ref (b 24)])), (b 14, .inl (g 0, 60, .inl a_rows))] (fun r u => (∀ W : MW, RwR W q a_rows → r = aRow i0 w0 W) ∧ u = [(b 0, .inr (9, [.int (nI n), .ref (b 1), .ref (b 2), .int (nI p0), .ref (b 3), .ref (b 4), .ref (b 5), .ref (b 6), .ref (b 7), .ref (b 8), .int (I 10), .ref (b 9), .int (nI t), .int (I 13), .int (I 14), .int (I 15), .long W, .int (I 17), .int (I 18), .int (I 19), .int (I 20), .ref (b 10), .ref (b 11), .ref (b 12), .ref (b 13), .ref (b 14), .ref (b 15), .int (nI q), .int (nI mm), .ref (b 16), .ref (b 17), .ref (b 18), .ref (b 19), .ref (b 20), .ref (b 21), .int (I 35), .int (I 36), .int (I 37), .ref (b 22), .int (nI bd), .int (I 40), .int (I 41), .ref (b 23), .int (I 43), .ref (b 24)])), (b 14, .inl (g 0, 60, .inl a_rows))]) := by
  refine ci_in (by decide) (Nat.le_of_ble_eq_true rfl) (a0 := [b 0, b 14]) rfl (fun p e s m args below meth c A Q hQ B hr hsc => ?_)
  refine s_aload_n B dX9_row_0 rfl 0 rfl ?_
  refine s_iload_n B dX9_row_1 rfl 1 rfl ?_
  refine s_iload_n B dX9_row_2 rfl 2 rfl ?_
  refine s_callVi B hsc (c_X9_isRow l D g b I W n p0 t q mm bd i0 w0 (by omega) (by omega) (by omega) (by omega) (by omega) (by omega)) (gw_V ml_X9_263 im_yX9_isRow se_yX9_isRow ini_RX9 co_yX9_isRow) hd_X9_isRow rfl rfl ⟨(Nat.le_of_ble_eq_true rfl), (Nat.le_of_ble_eq_true rfl)⟩ [0] [0, 1, 2, 3, 4] rfl rfl rfl (ci := 9) (q0 := 0) rfl rfl rfl rfl rfl (Nat.le_of_ble_eq_true rfl) dX9_row_3 (fun r_1 u_2 hpo => ?_)
  obtain ⟨rfl, rfl⟩ := hpo
  refine s_st (st' := [.int (if (¬ i0 < 0 ∧ ¬ nI q - 1 < i0) ∧ (¬ w0 < 0 ∧ ¬ 2 < w0) then 1 else 0)]) rfl ?_
  refine s_ws (ws' := [(b 0, .inr (9, [.int (nI n), .ref (b 1), .ref (b 2), .int (nI p0), .ref (b 3), .ref (b 4), .ref (b 5), .ref (b 6), .ref (b 7), .ref (b 8), .int (I 10), .ref (b 9), .int (nI t), .int (I 13), .int (I 14), .int (I 15), .long W, .int (I 17), .int (I 18), .int (I 19), .int (I 20), .ref (b 10), .ref (b 11), .ref (b 12), .ref (b 13), .ref (b 14), .ref (b 15), .int (nI q), .int (nI mm), .ref (b 16), .ref (b 17), .ref (b 18), .ref (b 19), .ref (b 20), .ref (b 21), .int (I 35), .int (I 36), .int (I 37), .ref (b 22), .int (nI bd), .int (I 40), .int (I 41), .ref (b 23), .int (I 43), .ref (b 24)])), (b 14, .inl (g 0, 60, .inl a_rows))]) rfl ?_
  refine s_bif_eq (tgt := 22) B dX9_row_6 rfl (fun h6 => ?_) (fun h6 => ?_)
  · refine s_bipush B dX9_row_22 bp_m9 ?_
    refine s_iret B hQ hr dX9_row_24 rfl ?_
    exact ⟨(fun W hW => hW.row_no (by assumption)), rfl⟩
  · obtain ⟨k_3, hk_4, rfl⟩ := nat_lt1 (N := q) h6.1.1 h6.1.2 (by omega)
    obtain ⟨k_5, hk_6, rfl⟩ := nat_le (N := 2) h6.2.1 h6.2.2 (by decide)
    refine s_aload_n B dX9_row_9 rfl 0 rfl ?_
    refine s_get (T := TX9) B inX9 0 rfl rfl 25 (Nat.le_of_ble_eq_true rfl) fl_X9_53 rfl rfl dX9_row_10 ?_
    refine s_iconst B dX9_row_13 ic_3 ?_
    refine s_iload_n B dX9_row_14 rfl 1 rfl ?_
    refine s_imulE B dX9_row_15 (pk_mul 3 k_3) ?_
    refine s_iload_n B dX9_row_16 rfl 2 rfl ?_
    refine s_iaddE B dX9_row_17 (nI_add (3 * k_3) k_5) ?_
    refine s_ialdN B 1 0 rfl rfl dX9_row_18 (by omega) (by decide) ?_
    refine s_goto (tgt := 24) B dX9_row_19 rfl ?_
    refine s_iret B hQ hr dX9_row_24 rfl ?_
    exact ⟨(fun W hW => hW.row_ok (by omega) (by omega) rfl), rfl⟩
def rmX9_alterRow : Room := { frames := 2, cells := 0, slots := 0, locals := 44 }
theorem hd_X9_alterRow : yX9_alterRow.cls = RX9 ∧ yX9_alterRow.cls ≠ "java/lang/invoke/MethodHandle" ∧ yX9_alterRow.cls ≠ "java/lang/invoke/VarHandle" ∧ (parseMethodDescriptor yX9_alterRow.desc).map (fun d => d.parameters.length) = some 3 := by decide +kernel
set_option maxHeartbeats 4000000 in
set_option maxRecDepth 100000 in
theorem c_X9_alterRow (l : Launch) (D : va_G) (g : Nat → ClassId) (b : Nat → Nat) (I : Nat → Int32) (W : Int64) (n p0 t q mm bd : Nat) (a_rows : Nat → Int32) (i0 : Int32) (w0 : Int32) (v0 : Int32) (hn : n ≤ 8) (hp : p0 = 0 ∨ p0 = 25) (ht : t ≤ 240) (hq0 : q ≤ 20) (hmm : mm ≤ 20) (hbd : bd ≤ 30) : Ci l yX9_alterRow (WW yX9_alterRow cX9_alterRow 5 (some FieldType.int)) rmX9_alterRow D vwCl (TY g) [.ref (b 0), .int i0, .int w0, .int v0] [(b 0, .inr (9, [.int (nI n), .ref (b 1), .ref (b 2), .int (nI p0), .ref (b 3), .ref (b 4), .ref (b 5), .ref (b 6), .ref (b 7), .ref (b 8), .int (I 10), .ref (b 9), .int (nI t), .int (I 13), .int (I 14), .int (I 15), .long W, .int (I 17), .int (I 18), .int (I 19), .int (I 20), .ref (b 10), .ref (b 11), .ref (b 12), .ref (b 13), .ref (b 14), .ref (b 15), .int (nI q), .int (nI mm), .ref (b 16), .ref (b 17), .ref (b 18), .ref (b 19), .ref (b 20), .ref (b 21), .int (I 35), .int (I 36), .int (I 37), .ref (b 22), .int (nI bd), .int (I 40), .int (I 41), .ref (b 23), .int (I 43), .ref (b 24)])), (b 14, .inl (g 0, 60, .inl a_rows))] (fun r u => ∃ (a_rows' : Nat → Int32), (∀ W : MW, RwR W q a_rows → RwR (gAlter i0 w0 v0 W) q a_rows' ∧ r = aRow i0 w0 W) ∧ u = [(b 0, .inr (9, [.int (nI n), .ref (b 1), .ref (b 2), .int (nI p0), .ref (b 3), .ref (b 4), .ref (b 5), .ref (b 6), .ref (b 7), .ref (b 8), .int (I 10), .ref (b 9), .int (nI t), .int (I 13), .int (I 14), .int (I 15), .long W, .int (I 17), .int (I 18), .int (I 19), .int (I 20), .ref (b 10), .ref (b 11), .ref (b 12), .ref (b 13), .ref (b 14), .ref (b 15), .int (nI q), .int (nI mm), .ref (b 16), .ref (b 17), .ref (b 18), .ref (b 19), .ref (b 20), .ref (b 21), .int (I 35), .int (I 36), .int (I 37), .ref (b 22), .int (nI bd), .int (I 40), .int (I 41), .ref (b 23), .int (I 43), .ref (b 24)])), (b 14, .inl (g 0, 60, .inl a_rows'))]) := by
  refine ci_in (by decide) (Nat.le_of_ble_eq_true rfl) (a0 := [b 0, b 14]) rfl (fun p e s m args below meth c A Q hQ B hr hsc => ?_)
  refine s_aload_n B dX9_alterRow_0 rfl 0 rfl ?_
  refine s_iload_n B dX9_alterRow_1 rfl 1 rfl ?_
  refine s_iload_n B dX9_alterRow_2 rfl 2 rfl ?_
  refine s_callVi B hsc (c_X9_isRow l D g b I W n p0 t q mm bd i0 w0 (by omega) (by omega) (by omega) (by omega) (by omega) (by omega)) (gw_V ml_X9_263 im_yX9_isRow se_yX9_isRow ini_RX9 co_yX9_isRow) hd_X9_isRow rfl rfl ⟨(Nat.le_of_ble_eq_true rfl), (Nat.le_of_ble_eq_true rfl)⟩ [0] [0, 1, 2, 3, 4] rfl rfl rfl (ci := 9) (q0 := 0) rfl rfl rfl rfl rfl (Nat.le_of_ble_eq_true rfl) dX9_alterRow_3 (fun r_1 u_2 hpo => ?_)
  obtain ⟨rfl, rfl⟩ := hpo
  refine s_st (st' := [.int (if (¬ i0 < 0 ∧ ¬ nI q - 1 < i0) ∧ (¬ w0 < 0 ∧ ¬ 2 < w0) then 1 else 0)]) rfl ?_
  refine s_ws (ws' := [(b 0, .inr (9, [.int (nI n), .ref (b 1), .ref (b 2), .int (nI p0), .ref (b 3), .ref (b 4), .ref (b 5), .ref (b 6), .ref (b 7), .ref (b 8), .int (I 10), .ref (b 9), .int (nI t), .int (I 13), .int (I 14), .int (I 15), .long W, .int (I 17), .int (I 18), .int (I 19), .int (I 20), .ref (b 10), .ref (b 11), .ref (b 12), .ref (b 13), .ref (b 14), .ref (b 15), .int (nI q), .int (nI mm), .ref (b 16), .ref (b 17), .ref (b 18), .ref (b 19), .ref (b 20), .ref (b 21), .int (I 35), .int (I 36), .int (I 37), .ref (b 22), .int (nI bd), .int (I 40), .int (I 41), .ref (b 23), .int (I 43), .ref (b 24)])), (b 14, .inl (g 0, 60, .inl a_rows))]) rfl ?_
  refine s_bif_ne (tgt := 12) B dX9_alterRow_6 rfl (fun h6 => ?_) (fun h6 => ?_)
  · obtain ⟨k_3, hk_4, rfl⟩ := nat_lt1 (N := q) h6.1.1 h6.1.2 (by omega)
    obtain ⟨k_5, hk_6, rfl⟩ := nat_le (N := 2) h6.2.1 h6.2.2 (by decide)
    refine s_aload_n B dX9_alterRow_12 rfl 0 rfl ?_
    refine s_get (T := TX9) B inX9 0 rfl rfl 25 (Nat.le_of_ble_eq_true rfl) fl_X9_53 rfl rfl dX9_alterRow_13 ?_
    refine s_iconst B dX9_alterRow_16 ic_3 ?_
    refine s_iload_n B dX9_alterRow_17 rfl 1 rfl ?_
    refine s_imulE B dX9_alterRow_18 (pk_mul 3 k_3) ?_
    refine s_iload_n B dX9_alterRow_19 rfl 2 rfl ?_
    refine s_iaddE B dX9_alterRow_20 (nI_add (3 * k_3) k_5) ?_
    refine s_ialdN B 1 0 rfl rfl dX9_alterRow_21 (by omega) (by decide) ?_
    refine s_istore (lv' := [(4, _), (0, _), (1, _), (2, _), (3, _)]) B dX9_alterRow_22 (Nat.le_of_ble_eq_true rfl) rfl ?_
    refine s_aload_n B dX9_alterRow_24 rfl 1 rfl ?_
    refine s_get (T := TX9) B inX9 0 rfl rfl 25 (Nat.le_of_ble_eq_true rfl) fl_X9_53 rfl rfl dX9_alterRow_25 ?_
    refine s_iconst B dX9_alterRow_28 ic_3 ?_
    refine s_iload_n B dX9_alterRow_29 rfl 2 rfl ?_
    refine s_imulE B dX9_alterRow_30 (pk_mul 3 k_3) ?_
    refine s_iload_n B dX9_alterRow_31 rfl 3 rfl ?_
    refine s_iaddE B dX9_alterRow_32 (nI_add (3 * k_3) k_5) ?_
    refine s_iload_n B dX9_alterRow_33 rfl 4 rfl ?_
    refine s_iastN (ws' := [_, _]) B 1 0 rfl rfl rfl dX9_alterRow_34 (by omega) (by decide) ?_
    refine s_iload B dX9_alterRow_35 0 rfl ?_
    refine s_iret B hQ hr dX9_alterRow_37 rfl ?_
    exact ⟨(upd a_rows ((3 * k_3) + k_5) v0), (fun W hW => hW.alter_ok (by omega) (by omega) rfl), rfl⟩
  · refine s_bipush B dX9_alterRow_9 bp_m9 ?_
    refine s_iret B hQ hr dX9_alterRow_11 rfl ?_
    exact ⟨a_rows, (fun W hW => hW.alter_no (by assumption)), rfl⟩
def rmX9_judge : Room := { frames := 6, cells := 0, slots := 0, locals := 140 }
theorem hd_X9_judge : yX9_judge.cls = RX9 ∧ yX9_judge.cls ≠ "java/lang/invoke/MethodHandle" ∧ yX9_judge.cls ≠ "java/lang/invoke/VarHandle" ∧ (parseMethodDescriptor yX9_judge.desc).map (fun d => d.parameters.length) = some 0 := by decide +kernel
set_option maxHeartbeats 4000000 in
set_option maxRecDepth 100000 in
theorem c_X9_judge (l : Launch) (D : va_G) (g : Nat → ClassId) (b : Nat → Nat) (I : Nat → Int32) (W : Int64) (n p0 t q mm bd : Nat) (a_child : Nat → Int32) (a_row : Nat → Int32) (a_events : Nat → Int32) (a_laws : Nat → Int32) (a_must : Nat → Int32) (a_rows : Nat → Int32) (hn : n ≤ 8) (hp : p0 = 0 ∨ p0 = 25) (ht : t ≤ 240) (hq0 : q ≤ 20) (hmm : mm ≤ 20) (hbd : bd ≤ 30) (ok_a_row : RowOk a_row) : Ci l yX9_judge (WW yX9_judge cX9_judge 4 (some FieldType.int)) rmX9_judge D vwCl (TY g) [.ref (b 0)] [(b 0, .inr (9, [.int (nI n), .ref (b 1), .ref (b 2), .int (nI 0), .ref (b 3), .ref (b 4), .ref (b 5), .ref (b 6), .ref (b 7), .ref (b 8), .int (I 10), .ref (b 9), .int (nI t), .int (I 13), .int (I 14), .int (I 15), .long W, .int (I 17), .int (I 18), .int (I 19), .int (I 20), .ref (b 10), .ref (b 11), .ref (b 12), .ref (b 13), .ref (b 14), .ref (b 15), .int (nI q), .int (nI mm), .ref (b 16), .ref (b 17), .ref (b 18), .ref (b 19), .ref (b 20), .ref (b 21), .int (I 35), .int (I 36), .int (I 37), .ref (b 22), .int (nI bd), .int (I 40), .int (I 41), .ref (b 23), .int (I 43), .ref (b 24)])), (b 1, .inl (g 0, 32, .inl a_child)), (b 2, .inl (g 0, 50, .inl a_row)), (b 3, .inl (g 0, 40, .inl a_events)), (b 6, .inl (g 0, 4, .inl a_laws)), (b 15, .inl (g 0, 60, .inl a_must)), (b 14, .inl (g 0, 60, .inl a_rows))] (fun r u => ∃ (a_row' : Nat → Int32) (a_must' : Nat → Int32) (mm' : Nat), (RowOk a_row') ∧ (mm' ≤ 20) ∧ (a_row' 0 = a_row 0) ∧ (∀ j : Nat, j < 25 → a_row' j = a_row j) ∧ (∀ (G : MG) (W : MW) (cr9 tr9 : MA), RG G n a_child a_row a_events cr9 tr9 a_laws (I 10) → RwR W q a_rows → r = aJudge G W) ∧ u = [(b 0, .inr (9, [.int (nI n), .ref (b 1), .ref (b 2), .int (nI 0), .ref (b 3), .ref (b 4), .ref (b 5), .ref (b 6), .ref (b 7), .ref (b 8), .int (I 10), .ref (b 9), .int (nI t), .int (I 13), .int (I 14), .int (I 15), .long W, .int (I 17), .int (I 18), .int (I 19), .int (I 20), .ref (b 10), .ref (b 11), .ref (b 12), .ref (b 13), .ref (b 14), .ref (b 15), .int (nI q), .int (nI mm'), .ref (b 16), .ref (b 17), .ref (b 18), .ref (b 19), .ref (b 20), .ref (b 21), .int (I 35), .int (I 36), .int (I 37), .ref (b 22), .int (nI bd), .int (I 40), .int (I 41), .ref (b 23), .int (I 43), .ref (b 24)])), (b 1, .inl (g 0, 32, .inl a_child)), (b 2, .inl (g 0, 50, .inl a_row')), (b 3, .inl (g 0, 40, .inl a_events)), (b 6, .inl (g 0, 4, .inl a_laws)), (b 15, .inl (g 0, 60, .inl a_must')), (b 14, .inl (g 0, 60, .inl a_rows))]) := by
  refine ci_in (by decide) (Nat.le_of_ble_eq_true rfl) (a0 := [b 0, b 1, b 2, b 3, b 6, b 15, b 14]) rfl (fun p e s m args below meth c A Q hQ B hr hsc => ?_)
  have L10 : ∀ (jj10 : Nat) (ki_10 : Nat) (mm_12 : Nat) (a_row_14 : Nat → Int32) (a_must_15 : Nat → Int32), 20 - ki_10 < jj10 → (ki_10 ≤ 20) → (mm_12 ≤ 20) → (RowOk a_row_14) → (a_row_14 0 = a_row 0) → (∀ j : Nat, j < 25 → a_row_14 j = a_row j) → (ki_10 ≤ q) → (∀ d : Nat, d ≤ 40 → a_row 0 = nI d → NNr a_row a_laws n 0 → mm_12 = min q (40 - d) ∧ MuR a_must_15 a_child a_events a_laws n d (s3R a_row 0) mm_12) → (JuA a_rows a_must_15 mm_12 ki_10) → Sx p l e rmX9_judge s m args below meth c D vwCl A 4 Q 10 [(0, .ref (b 0)), (1, .int (nI ki_10))] [] [(b 0, .inr (9, [.int (nI n), .ref (b 1), .ref (b 2), .int (nI 0), .ref (b 3), .ref (b 4), .ref (b 5), .ref (b 6), .ref (b 7), .ref (b 8), .int (I 10), .ref (b 9), .int (nI t), .int (I 13), .int (I 14), .int (I 15), .long W, .int (I 17), .int (I 18), .int (I 19), .int (I 20), .ref (b 10), .ref (b 11), .ref (b 12), .ref (b 13), .ref (b 14), .ref (b 15), .int (nI q), .int (nI mm_12), .ref (b 16), .ref (b 17), .ref (b 18), .ref (b 19), .ref (b 20), .ref (b 21), .int (I 35), .int (I 36), .int (I 37), .ref (b 22), .int (nI bd), .int (I 40), .int (I 41), .ref (b 23), .int (I 43), .ref (b 24)])), (b 1, .inl (g 0, 32, .inl a_child)), (b 2, .inl (g 0, 50, .inl a_row_14)), (b 3, .inl (g 0, 40, .inl a_events)), (b 6, .inl (g 0, 4, .inl a_laws)), (b 15, .inl (g 0, 60, .inl a_must_15)), (b 14, .inl (g 0, 60, .inl a_rows))] := by
    intro jj10
    induction jj10 with
    | zero => intro ki_10 mm_12 a_row_14 a_must_15 hj; exact absurd hj (Nat.not_lt_zero _)
    | succ jj10 ih10 =>
      intro ki_10 mm_12 a_row_14 a_must_15 hj10 h_11 h_13 ok_a_row_14 hz_16 hy_17 hj_18 hQ_19 hA_20
      have L34 : ∀ (jj34 : Nat) (v_21 : Int32) (kk_22 : Nat), 3 - kk_22 < jj34 → (ki_10 ≤ 20) → (mm_12 ≤ 20) → (RowOk a_row_14) → (a_row_14 0 = a_row 0) → (∀ j : Nat, j < 25 → a_row_14 j = a_row j) → (ki_10 ≤ q) → (∀ d : Nat, d ≤ 40 → a_row 0 = nI d → NNr a_row a_laws n 0 → mm_12 = min q (40 - d) ∧ MuR a_must_15 a_child a_events a_laws n d (s3R a_row 0) mm_12) → (JuA a_rows a_must_15 mm_12 ki_10) → (¬ q ≤ ki_10) → (kk_22 ≤ 3) → (a_row_14 0 = a_row 0) → (∀ j : Nat, j < 25 → a_row_14 j = a_row j) → (JuB a_rows a_must_15 mm_12 ki_10 kk_22 v_21) → Sx p l e rmX9_judge s m args below meth c D vwCl A 4 Q 34 [(0, .ref (b 0)), (1, .int (nI ki_10)), (2, .int v_21), (3, .int (nI kk_22))] [] [(b 0, .inr (9, [.int (nI n), .ref (b 1), .ref (b 2), .int (nI 0), .ref (b 3), .ref (b 4), .ref (b 5), .ref (b 6), .ref (b 7), .ref (b 8), .int (I 10), .ref (b 9), .int (nI t), .int (I 13), .int (I 14), .int (I 15), .long W, .int (I 17), .int (I 18), .int (I 19), .int (I 20), .ref (b 10), .ref (b 11), .ref (b 12), .ref (b 13), .ref (b 14), .ref (b 15), .int (nI q), .int (nI mm_12), .ref (b 16), .ref (b 17), .ref (b 18), .ref (b 19), .ref (b 20), .ref (b 21), .int (I 35), .int (I 36), .int (I 37), .ref (b 22), .int (nI bd), .int (I 40), .int (I 41), .ref (b 23), .int (I 43), .ref (b 24)])), (b 1, .inl (g 0, 32, .inl a_child)), (b 2, .inl (g 0, 50, .inl a_row_14)), (b 3, .inl (g 0, 40, .inl a_events)), (b 6, .inl (g 0, 4, .inl a_laws)), (b 15, .inl (g 0, 60, .inl a_must_15)), (b 14, .inl (g 0, 60, .inl a_rows))] := by
        intro jj34
        induction jj34 with
        | zero => intro v_21 kk_22 hj; exact absurd hj (Nat.not_lt_zero _)
        | succ jj34 ih34 =>
          intro v_21 kk_22 hj34 h_11 h_13 ok_a_row_14 hz_16 hy_17 hj_18 hQ_19 hA_20 h15 h_23 hz_24 hy_25 hB_26
          refine s_iload_n B dX9_judge_34 rfl 3 rfl ?_
          refine s_iconst B dX9_judge_35 ic_3 ?_
          refine s_icmp_ge (tgt := 78) B dX9_judge_36 rfl (fun h36 => ?_) (fun h36 => ?_)
          · replace h36 : 3 ≤ kk_22 := (nI_leI (a := 3) (b := kk_22) (by omega) (by omega)).mp h36
            refine s_iload_n B dX9_judge_78 rfl 2 rfl ?_
            refine s_if_ne (tgt := 86) B dX9_judge_79 rfl (fun h79 => ?_) (fun h79 => ?_)
            · refine s_iinc (lv' := [(1, _), (0, _), (2, _), (3, _)]) (k := 1) B dX9_judge_86 rfl (ii_n _) (Nat.le_of_ble_eq_true rfl) rfl ?_
              refine s_goto (tgt := 10) B dX9_judge_89 rfl ?_
              refine s_lv (lv' := [(0, _), (1, _)]) [1, 0] rfl ?_
              exact ih10 (ki_10 + 1) mm_12 a_row_14 a_must_15 (by omega) (by omega) (by omega) ok_a_row_14 (hz_24.trans rfl) (fun j hj => ((hy_25 j hj).trans rfl)) (by omega) hQ_19 (JuA_s hA_20 (JuB_e hB_26 h79 (by omega)))
            · refine s_iload_n B dX9_judge_82 rfl 1 rfl ?_
              refine s_iconst B dX9_judge_83 ic_1 ?_
              refine s_iaddE B dX9_judge_84 (nI_add ki_10 1) ?_
              refine s_iret B hQ hr dX9_judge_85 rfl ?_
              exact ⟨a_row_14, a_must_15, mm_12, ok_a_row_14, by omega, (hz_24.trans rfl), (fun j hj => ((hy_25 j hj).trans rfl)), (fun G W cr9 tr9 H hW => (H.judge_y hW (hQ_19 (gTd G) H.td.2 H.td.1 H.nn).1 (hQ_19 (gTd G) H.td.2 H.td.1 H.nn).2 (by omega) hA_20 (JuB_f hB_26 h79))), rfl⟩
          · replace h36 : ¬ 3 ≤ kk_22 := fun hh => h36 ((nI_leI (a := 3) (b := kk_22) (by omega) (by omega)).mpr hh)
            refine s_iload_n B dX9_judge_39 rfl 2 rfl ?_
            refine s_if_eq (tgt := 78) B dX9_judge_40 rfl (fun h40 => ?_) (fun h40 => ?_)
            · refine s_iload_n B dX9_judge_78 rfl 2 rfl ?_
              refine s_if_ne (tgt := 86) B dX9_judge_79 rfl (fun h79 => ?_) (fun h79 => ?_)
              · refine s_iinc (lv' := [(1, _), (0, _), (2, _), (3, _)]) (k := 1) B dX9_judge_86 rfl (ii_n _) (Nat.le_of_ble_eq_true rfl) rfl ?_
                refine s_goto (tgt := 10) B dX9_judge_89 rfl ?_
                refine s_lv (lv' := [(0, _), (1, _)]) [1, 0] rfl ?_
                exact ih10 (ki_10 + 1) mm_12 a_row_14 a_must_15 (by omega) (by omega) (by omega) ok_a_row_14 (hz_24.trans rfl) (fun j hj => ((hy_25 j hj).trans rfl)) (by omega) hQ_19 (absurd h40 h79)
              · refine s_iload_n B dX9_judge_82 rfl 1 rfl ?_
                refine s_iconst B dX9_judge_83 ic_1 ?_
                refine s_iaddE B dX9_judge_84 (nI_add ki_10 1) ?_
                refine s_iret B hQ hr dX9_judge_85 rfl ?_
                exact ⟨a_row_14, a_must_15, mm_12, ok_a_row_14, by omega, (hz_24.trans rfl), (fun j hj => ((hy_25 j hj).trans rfl)), (fun G W cr9 tr9 H hW => (H.judge_y hW (hQ_19 (gTd G) H.td.2 H.td.1 H.nn).1 (hQ_19 (gTd G) H.td.2 H.td.1 H.nn).2 (by omega) hA_20 (JuB_f hB_26 h79))), rfl⟩
            · refine s_aload_n B dX9_judge_43 rfl 0 rfl ?_
              refine s_get (T := TX9) B inX9 0 rfl rfl 25 (Nat.le_of_ble_eq_true rfl) fl_X9_53 rfl rfl dX9_judge_44 ?_
              refine s_iconst B dX9_judge_47 ic_3 ?_
              refine s_iload_n B dX9_judge_48 rfl 1 rfl ?_
              refine s_imulE B dX9_judge_49 (pk_mul 3 ki_10) ?_
              refine s_iload_n B dX9_judge_50 rfl 3 rfl ?_
              refine s_iaddE B dX9_judge_51 (nI_add (3 * ki_10) kk_22) ?_
              refine s_ialdN B 6 0 rfl rfl dX9_judge_52 (by omega) (by decide) ?_
              refine s_aload_n B dX9_judge_53 rfl 0 rfl ?_
              refine s_get (T := TX9) B inX9 0 rfl rfl 26 (Nat.le_of_ble_eq_true rfl) fl_X9_56 rfl rfl dX9_judge_54 ?_
              refine s_iconst B dX9_judge_57 ic_3 ?_
              refine s_iload_n B dX9_judge_58 rfl 1 rfl ?_
              refine s_imulE B dX9_judge_59 (pk_mul 3 ki_10) ?_
              refine s_iload_n B dX9_judge_60 rfl 3 rfl ?_
              refine s_iaddE B dX9_judge_61 (nI_add (3 * ki_10) kk_22) ?_
              refine s_ialdN B 5 0 rfl rfl dX9_judge_62 (by omega) (by decide) ?_
              refine s_icmp_ne (tgt := 70) B dX9_judge_63 rfl (fun h63 => ?_) (fun h63 => ?_)
              · refine s_iconst B dX9_judge_70 ic_0 ?_
                refine s_istore_n (lv' := [(2, _), (0, _), (1, _), (3, _)]) B dX9_judge_71 rfl (Nat.le_of_ble_eq_true rfl) rfl ?_
                refine s_iinc (lv' := [(3, _), (2, _), (0, _), (1, _)]) (k := 3) B dX9_judge_72 rfl (ii_n _) (Nat.le_of_ble_eq_true rfl) rfl ?_
                refine s_goto (tgt := 34) B dX9_judge_75 rfl ?_
                refine s_lv (lv' := [(0, _), (1, _), (2, _), (3, _)]) [2, 3, 1, 0] rfl ?_
                exact ih34 0 (kk_22 + 1) (by omega) h_11 h_13 ok_a_row_14 hz_24 hy_25 hj_18 hQ_19 hA_20 h15 (by omega) (hz_24.trans rfl) (fun j hj => ((hy_25 j hj).trans rfl)) (JuB_x hB_26 h40 (by omega) h63)
              · refine s_iconst B dX9_judge_66 ic_1 ?_
                refine s_goto (tgt := 71) B dX9_judge_67 rfl ?_
                refine s_istore_n (lv' := [(2, _), (0, _), (1, _), (3, _)]) B dX9_judge_71 rfl (Nat.le_of_ble_eq_true rfl) rfl ?_
                refine s_iinc (lv' := [(3, _), (2, _), (0, _), (1, _)]) (k := 3) B dX9_judge_72 rfl (ii_n _) (Nat.le_of_ble_eq_true rfl) rfl ?_
                refine s_goto (tgt := 34) B dX9_judge_75 rfl ?_
                refine s_lv (lv' := [(0, _), (1, _), (2, _), (3, _)]) [2, 3, 1, 0] rfl ?_
                exact ih34 1 (kk_22 + 1) (by omega) h_11 h_13 ok_a_row_14 hz_24 hy_25 hj_18 hQ_19 hA_20 h15 (by omega) (hz_24.trans rfl) (fun j hj => ((hy_25 j hj).trans rfl)) (JuB_y hB_26 h40 h63)
      refine s_iload_n B dX9_judge_10 rfl 1 rfl ?_
      refine s_aload_n B dX9_judge_11 rfl 0 rfl ?_
      refine s_get (T := TX9) B inX9 0 rfl rfl 27 (Nat.le_of_ble_eq_true rfl) fl_X9_199 rfl rfl dX9_judge_12 ?_
      refine s_icmp_ge (tgt := 92) B dX9_judge_15 rfl (fun h15 => ?_) (fun h15 => ?_)
      · replace h15 : q ≤ ki_10 := (nI_leI (a := q) (b := ki_10) (by omega) (by omega)).mp h15
        refine s_iconst B dX9_judge_92 ic_0 ?_
        refine s_iret B hQ hr dX9_judge_93 rfl ?_
        exact ⟨a_row_14, a_must_15, mm_12, ok_a_row_14, by omega, (hz_16.trans rfl), (fun j hj => ((hy_17 j hj).trans rfl)), (fun G W cr9 tr9 H hW => (H.judge_n hW (hQ_19 (gTd G) H.td.2 H.td.1 H.nn).1 (hQ_19 (gTd G) H.td.2 H.td.1 H.nn).2 (by omega) hA_20)), rfl⟩
      · replace h15 : ¬ q ≤ ki_10 := fun hh => h15 ((nI_leI (a := q) (b := ki_10) (by omega) (by omega)).mpr hh)
        refine s_iload_n B dX9_judge_18 rfl 1 rfl ?_
        refine s_aload_n B dX9_judge_19 rfl 0 rfl ?_
        refine s_get (T := TX9) B inX9 0 rfl rfl 28 (Nat.le_of_ble_eq_true rfl) fl_X9_257 rfl rfl dX9_judge_20 ?_
        refine s_icmp_ge (tgt := 30) B dX9_judge_23 rfl (fun h23 => ?_) (fun h23 => ?_)
        · replace h23 : mm_12 ≤ ki_10 := (nI_leI (a := mm_12) (b := ki_10) (by omega) (by omega)).mp h23
          refine s_iconst B dX9_judge_30 ic_0 ?_
          refine s_istore_n (lv' := [(2, _), (0, _), (1, _)]) B dX9_judge_31 rfl (Nat.le_of_ble_eq_true rfl) rfl ?_
          refine s_iconst B dX9_judge_32 ic_0 ?_
          refine s_istore_n (lv' := [(3, _), (2, _), (0, _), (1, _)]) B dX9_judge_33 rfl (Nat.le_of_ble_eq_true rfl) rfl ?_
          refine s_lv (lv' := [(0, _), (1, _), (2, _), (3, _)]) [2, 3, 1, 0] rfl ?_
          refine s_lve (lv' := [(0, .ref (b 0)), (1, .int (nI ki_10)), (2, .int 0), (3, .int (nI 0))]) (by first | rfl | (simp only [if_pos, if_neg]; done)) ?_
          exact L34 _ 0 0 (Nat.lt_succ_self _) h_11 h_13 ok_a_row_14 hz_16 hy_17 hj_18 hQ_19 hA_20 h15 (by omega) (hz_16.trans rfl) (fun j hj => ((hy_17 j hj).trans rfl)) (JuB_n (by omega))
        · replace h23 : ¬ mm_12 ≤ ki_10 := fun hh => h23 ((nI_leI (a := mm_12) (b := ki_10) (by omega) (by omega)).mpr hh)
          refine s_iconst B dX9_judge_26 ic_1 ?_
          refine s_goto (tgt := 31) B dX9_judge_27 rfl ?_
          refine s_istore_n (lv' := [(2, _), (0, _), (1, _)]) B dX9_judge_31 rfl (Nat.le_of_ble_eq_true rfl) rfl ?_
          refine s_iconst B dX9_judge_32 ic_0 ?_
          refine s_istore_n (lv' := [(3, _), (2, _), (0, _), (1, _)]) B dX9_judge_33 rfl (Nat.le_of_ble_eq_true rfl) rfl ?_
          refine s_lv (lv' := [(0, _), (1, _), (2, _), (3, _)]) [2, 3, 1, 0] rfl ?_
          refine s_lve (lv' := [(0, .ref (b 0)), (1, .int (nI ki_10)), (2, .int 1), (3, .int (nI 0))]) (by first | rfl | (simp only [if_pos, if_neg]; done)) ?_
          exact L34 _ 1 0 (Nat.lt_succ_self _) h_11 h_13 ok_a_row_14 hz_16 hy_17 hj_18 hQ_19 hA_20 h15 (by omega) (hz_16.trans rfl) (fun j hj => ((hy_17 j hj).trans rfl)) (JuB_0 (by omega))
  refine s_aload_n B dX9_judge_0 rfl 0 rfl ?_
  refine s_aload_n B dX9_judge_1 rfl 0 rfl ?_
  refine s_get (T := TX9) B inX9 0 rfl rfl 27 (Nat.le_of_ble_eq_true rfl) fl_X9_199 rfl rfl dX9_judge_2 ?_
  refine s_callVv B hsc (c_X9_findRows l D g b I W n 0 t q mm bd a_child a_row a_events a_laws a_must q (by omega) (by omega) (by omega) (by omega) (by omega) (by omega) ok_a_row (by first | assumption | decide | (intro h9; first | assumption | exact absurd h9 (by decide)) | omega | rfl | (refine ⟨_, ?_, by assumption⟩; omega) | (clear hQ B hr hsc; grind))) (gw_V ml_X9_260 im_yX9_findRows se_yX9_findRows ini_RX9 co_yX9_findRows) hd_X9_findRows rfl rfl ⟨(Nat.le_of_ble_eq_true rfl), (Nat.le_of_ble_eq_true rfl)⟩ [0, 1, 2, 3, 4, 5] [0, 1, 2, 3, 4] rfl rfl rfl (ci := 9) (q0 := 0) rfl rfl rfl rfl rfl (Nat.le_of_ble_eq_true rfl) dX9_judge_5 (fun u_2 hpo => ?_)
  obtain ⟨a_row_3, a_must_4, mm_5, ok_a_row_3, hf_6, hf_7, hf_8, hf_9, rfl⟩ := hpo
  refine s_ws (ws' := [(b 0, .inr (9, [.int (nI n), .ref (b 1), .ref (b 2), .int (nI 0), .ref (b 3), .ref (b 4), .ref (b 5), .ref (b 6), .ref (b 7), .ref (b 8), .int (I 10), .ref (b 9), .int (nI t), .int (I 13), .int (I 14), .int (I 15), .long W, .int (I 17), .int (I 18), .int (I 19), .int (I 20), .ref (b 10), .ref (b 11), .ref (b 12), .ref (b 13), .ref (b 14), .ref (b 15), .int (nI q), .int (nI mm_5), .ref (b 16), .ref (b 17), .ref (b 18), .ref (b 19), .ref (b 20), .ref (b 21), .int (I 35), .int (I 36), .int (I 37), .ref (b 22), .int (nI bd), .int (I 40), .int (I 41), .ref (b 23), .int (I 43), .ref (b 24)])), (b 1, .inl (g 0, 32, .inl a_child)), (b 2, .inl (g 0, 50, .inl a_row_3)), (b 3, .inl (g 0, 40, .inl a_events)), (b 6, .inl (g 0, 4, .inl a_laws)), (b 15, .inl (g 0, 60, .inl a_must_4)), (b 14, .inl (g 0, 60, .inl a_rows))]) rfl ?_
  refine s_iconst B dX9_judge_8 ic_0 ?_
  refine s_istore_n (lv' := [(1, _), (0, _)]) B dX9_judge_9 rfl (Nat.le_of_ble_eq_true rfl) rfl ?_
  refine s_lv (lv' := [(0, _), (1, _)]) [1, 0] rfl ?_
  refine s_lve (lv' := [(0, .ref (b 0)), (1, .int (nI 0))]) (by first | rfl | (simp only [if_pos, if_neg]; done)) ?_
  exact L10 _ 0 mm_5 a_row_3 a_must_4 (Nat.lt_succ_self _) (by omega) (by omega) ok_a_row_3 (hf_7.trans rfl) (fun j hj => ((hf_8 j hj).trans rfl)) (by omega) hf_9 JuA_0
def rmX9_lacksSort : Room := { frames := 0, cells := 0, slots := 0, locals := 0 }
theorem hd_X9_lacksSort : yX9_lacksSort.cls = RX9 ∧ yX9_lacksSort.cls ≠ "java/lang/invoke/MethodHandle" ∧ yX9_lacksSort.cls ≠ "java/lang/invoke/VarHandle" ∧ (parseMethodDescriptor yX9_lacksSort.desc).map (fun d => d.parameters.length) = some 2 := by decide +kernel
set_option maxHeartbeats 4000000 in
set_option maxRecDepth 100000 in
theorem c_X9_lacksSort (l : Launch) (D : va_G) (g : Nat → ClassId) (b : Nat → Nat) (I : Nat → Int32) (W : Int64) (n p0 t q mm bd : Nat) (a_sorts : Nat → Int32) (s1 : Nat) (x0 : Int32) (hn : n ≤ 8) (hp : p0 = 0 ∨ p0 = 25) (ht : t ≤ 240) (hq0 : q ≤ 20) (hmm : mm ≤ 20) (hbd : bd ≤ 30) (hpre0 : s1 < 4) : Ci l yX9_lacksSort (WW yX9_lacksSort cX9_lacksSort 3 (some FieldType.int)) rmX9_lacksSort D vwCl (TY g) [.ref (b 0), .int (nI s1), .int x0] [(b 0, .inr (9, [.int (nI n), .ref (b 1), .ref (b 2), .int (nI p0), .ref (b 3), .ref (b 4), .ref (b 5), .ref (b 6), .ref (b 7), .ref (b 8), .int (I 10), .ref (b 9), .int (nI t), .int (I 13), .int (I 14), .int (I 15), .long W, .int (I 17), .int (I 18), .int (I 19), .int (I 20), .ref (b 10), .ref (b 11), .ref (b 12), .ref (b 13), .ref (b 14), .ref (b 15), .int (nI q), .int (nI mm), .ref (b 16), .ref (b 17), .ref (b 18), .ref (b 19), .ref (b 20), .ref (b 21), .int (I 35), .int (I 36), .int (I 37), .ref (b 22), .int (nI bd), .int (I 40), .int (I 41), .ref (b 23), .int (I 43), .ref (b 24)])), (b 16, .inl (g 0, 4, .inl a_sorts))] (fun r u => (r = if a_sorts s1 < 0 then -11 else if ¬ a_sorts s1 = x0 then -13 else 0) ∧ u = [(b 0, .inr (9, [.int (nI n), .ref (b 1), .ref (b 2), .int (nI p0), .ref (b 3), .ref (b 4), .ref (b 5), .ref (b 6), .ref (b 7), .ref (b 8), .int (I 10), .ref (b 9), .int (nI t), .int (I 13), .int (I 14), .int (I 15), .long W, .int (I 17), .int (I 18), .int (I 19), .int (I 20), .ref (b 10), .ref (b 11), .ref (b 12), .ref (b 13), .ref (b 14), .ref (b 15), .int (nI q), .int (nI mm), .ref (b 16), .ref (b 17), .ref (b 18), .ref (b 19), .ref (b 20), .ref (b 21), .int (I 35), .int (I 36), .int (I 37), .ref (b 22), .int (nI bd), .int (I 40), .int (I 41), .ref (b 23), .int (I 43), .ref (b 24)])), (b 16, .inl (g 0, 4, .inl a_sorts))]) := by
  refine ci_in (by decide) (Nat.le_of_ble_eq_true rfl) (a0 := [b 0, b 16]) rfl (fun p e s m args below meth c A Q hQ B hr hsc => ?_)
  refine s_aload_n B dX9_lacksSort_0 rfl 0 rfl ?_
  refine s_get (T := TX9) B inX9 0 rfl rfl 29 (Nat.le_of_ble_eq_true rfl) fl_X9_59 rfl rfl dX9_lacksSort_1 ?_
  refine s_iload_n B dX9_lacksSort_4 rfl 1 rfl ?_
  refine s_ialdN B 1 0 rfl rfl dX9_lacksSort_5 (by omega) (by decide) ?_
  refine s_if_ge (tgt := 14) B dX9_lacksSort_6 rfl (fun h6 => ?_) (fun h6 => ?_)
  · refine s_aload_n B dX9_lacksSort_14 rfl 0 rfl ?_
    refine s_get (T := TX9) B inX9 0 rfl rfl 29 (Nat.le_of_ble_eq_true rfl) fl_X9_59 rfl rfl dX9_lacksSort_15 ?_
    refine s_iload_n B dX9_lacksSort_18 rfl 1 rfl ?_
    refine s_ialdN B 1 0 rfl rfl dX9_lacksSort_19 (by omega) (by decide) ?_
    refine s_iload_n B dX9_lacksSort_20 rfl 2 rfl ?_
    refine s_icmp_eq (tgt := 29) B dX9_lacksSort_21 rfl (fun h21 => ?_) (fun h21 => ?_)
    · refine s_iconst B dX9_lacksSort_29 ic_0 ?_
      refine s_iret B hQ hr dX9_lacksSort_30 rfl ?_
      exact ⟨by clear hQ B hr hsc; grind, rfl⟩
    · refine s_bipush B dX9_lacksSort_24 bp_m13 ?_
      refine s_goto (tgt := 30) B dX9_lacksSort_26 rfl ?_
      refine s_iret B hQ hr dX9_lacksSort_30 rfl ?_
      exact ⟨by clear hQ B hr hsc; grind, rfl⟩
  · refine s_bipush B dX9_lacksSort_9 bp_m11 ?_
    refine s_goto (tgt := 30) B dX9_lacksSort_11 rfl ?_
    refine s_iret B hQ hr dX9_lacksSort_30 rfl ?_
    exact ⟨by clear hQ B hr hsc; grind, rfl⟩
def rmX9_events : Room := { frames := 2, cells := 0, slots := 0, locals := 42 }
theorem hd_X9_events : yX9_events.cls = RX9 ∧ yX9_events.cls ≠ "java/lang/invoke/MethodHandle" ∧ yX9_events.cls ≠ "java/lang/invoke/VarHandle" ∧ (parseMethodDescriptor yX9_events.desc).map (fun d => d.parameters.length) = some 4 := by decide +kernel
set_option maxHeartbeats 4000000 in
set_option maxRecDepth 100000 in
theorem c_X9_events (l : Launch) (D : va_G) (g : Nat → ClassId) (b : Nat → Nat) (I : Nat → Int32) (W : Int64) (n p0 t q mm bd : Nat) (a_events : Nat → Int32) (a_sorts : Nat → Int32) (a_sizes : Nat → Int32) (a_sheets : Nat → Int64) (s0 : Int32) (i0 : Int32) (d0 : Int32) (n0 : Int32) (hn : n ≤ 8) (hp : p0 = 0 ∨ p0 = 25) (ht : t ≤ 240) (hq0 : q ≤ 20) (hmm : mm ≤ 20) (hbd : bd ≤ 30) (ok_a_sizes : SizOk a_sizes) : Ci l yX9_events (WW yX9_events cX9_events 7 (some FieldType.int)) rmX9_events D vwCl (TY g) [.ref (b 0), .int s0, .int i0, .int d0, .int n0] [(b 0, .inr (9, [.int (nI n), .ref (b 1), .ref (b 2), .int (nI p0), .ref (b 3), .ref (b 4), .ref (b 5), .ref (b 6), .ref (b 7), .ref (b 8), .int (I 10), .ref (b 9), .int (nI t), .int (I 13), .int (I 14), .int (I 15), .long W, .int (I 17), .int (I 18), .int (I 19), .int (I 20), .ref (b 10), .ref (b 11), .ref (b 12), .ref (b 13), .ref (b 14), .ref (b 15), .int (nI q), .int (nI mm), .ref (b 16), .ref (b 17), .ref (b 18), .ref (b 19), .ref (b 20), .ref (b 21), .int (I 35), .int (I 36), .int (I 37), .ref (b 22), .int (nI bd), .int (I 40), .int (I 41), .ref (b 23), .int (I 43), .ref (b 24)])), (b 3, .inl (g 0, 40, .inl a_events)), (b 16, .inl (g 0, 4, .inl a_sorts)), (b 17, .inl (g 0, 4, .inl a_sizes)), (b 18, .inl (g 2, 160, .inr (.inl a_sheets)))] (fun r u => ∃ (a_events' : Nat → Int32), (r = mEv s0 i0 d0 n0 a_sorts a_sizes) ∧ (∀ (G : MG) (ch9 rw9 cr9 tr9 lw9 : MA) (it : Nat → Nat → Int64), ItR it a_sheets → RG G n ch9 rw9 a_events cr9 tr9 lw9 (I 10) → RG (gEvs r s0 i0 d0 n0 it G) n ch9 rw9 a_events' cr9 tr9 lw9 (I 10)) ∧ u = [(b 0, .inr (9, [.int (nI n), .ref (b 1), .ref (b 2), .int (nI p0), .ref (b 3), .ref (b 4), .ref (b 5), .ref (b 6), .ref (b 7), .ref (b 8), .int (I 10), .ref (b 9), .int (nI t), .int (I 13), .int (I 14), .int (I 15), .long W, .int (I 17), .int (I 18), .int (I 19), .int (I 20), .ref (b 10), .ref (b 11), .ref (b 12), .ref (b 13), .ref (b 14), .ref (b 15), .int (nI q), .int (nI mm), .ref (b 16), .ref (b 17), .ref (b 18), .ref (b 19), .ref (b 20), .ref (b 21), .int (I 35), .int (I 36), .int (I 37), .ref (b 22), .int (nI bd), .int (I 40), .int (I 41), .ref (b 23), .int (I 43), .ref (b 24)])), (b 3, .inl (g 0, 40, .inl a_events')), (b 16, .inl (g 0, 4, .inl a_sorts)), (b 17, .inl (g 0, 4, .inl a_sizes)), (b 18, .inl (g 2, 160, .inr (.inl a_sheets)))]) := by
  refine ci_in (by decide) (Nat.le_of_ble_eq_true rfl) (a0 := [b 0, b 3, b 16, b 17, b 18]) rfl (fun p e s m args below meth c A Q hQ B hr hsc => ?_)
  refine s_iload_n B dX9_events_0 rfl 1 rfl ?_
  refine s_callSi B hsc (c_X9_isShelf l D g s0) (gw_S ml_X9_266 sm_yX9_isShelf ini_RX9 co_yX9_isShelf) hd_X9_isShelf rfl rfl ⟨(Nat.le_of_ble_eq_true rfl), (Nat.le_of_ble_eq_true rfl)⟩ [] [0, 1, 2, 3, 4] rfl rfl rfl rfl rfl (Nat.le_of_ble_eq_true rfl) dX9_events_1 (fun r_1 u_2 hpo => ?_)
  obtain ⟨rfl, rfl⟩ := hpo
  refine s_st (st' := [.int (if ¬ s0 < 0 ∧ ¬ 3 < s0 then 1 else 0)]) rfl ?_
  refine s_ws (ws' := [(b 0, .inr (9, [.int (nI n), .ref (b 1), .ref (b 2), .int (nI p0), .ref (b 3), .ref (b 4), .ref (b 5), .ref (b 6), .ref (b 7), .ref (b 8), .int (I 10), .ref (b 9), .int (nI t), .int (I 13), .int (I 14), .int (I 15), .long W, .int (I 17), .int (I 18), .int (I 19), .int (I 20), .ref (b 10), .ref (b 11), .ref (b 12), .ref (b 13), .ref (b 14), .ref (b 15), .int (nI q), .int (nI mm), .ref (b 16), .ref (b 17), .ref (b 18), .ref (b 19), .ref (b 20), .ref (b 21), .int (I 35), .int (I 36), .int (I 37), .ref (b 22), .int (nI bd), .int (I 40), .int (I 41), .ref (b 23), .int (I 43), .ref (b 24)])), (b 3, .inl (g 0, 40, .inl a_events)), (b 16, .inl (g 0, 4, .inl a_sorts)), (b 17, .inl (g 0, 4, .inl a_sizes)), (b 18, .inl (g 2, 160, .inr (.inl a_sheets)))]) rfl ?_
  refine s_bif_eq (tgt := 34) B dX9_events_4 rfl (fun h4 => ?_) (fun h4 => ?_)
  · refine s_iconst B dX9_events_34 ic_m1 ?_
    refine s_iret B hQ hr dX9_events_35 rfl ?_
    exact ⟨a_events, by clear hQ B hr hsc; grind [mEv], (fun G ch9 rw9 cr9 tr9 lw9 it hI H => (by first | rw [← gEvs_no (by decide)]; exact H | (rw [← gEvs_no (by clear hQ B hr hsc; grind)]; exact H))), rfl⟩
  · obtain ⟨k_3, hk_4, rfl⟩ := nat_le (N := 3) h4.1 h4.2 (by decide)
    refine s_iload_n B dX9_events_7 rfl 3 rfl ?_
    refine s_callSi B hsc (c_X9_isDay l D g d0) (gw_S ml_X9_212 sm_yX9_isDay ini_RX9 co_yX9_isDay) hd_X9_isDay rfl rfl ⟨(Nat.le_of_ble_eq_true rfl), (Nat.le_of_ble_eq_true rfl)⟩ [] [0, 1, 2, 3, 4] rfl rfl rfl rfl rfl (Nat.le_of_ble_eq_true rfl) dX9_events_8 (fun r_5 u_6 hpo => ?_)
    obtain ⟨rfl, rfl⟩ := hpo
    refine s_st (st' := [.int (if ¬ d0 < 0 ∧ ¬ 39 < d0 then 1 else 0)]) rfl ?_
    refine s_ws (ws' := [(b 0, .inr (9, [.int (nI n), .ref (b 1), .ref (b 2), .int (nI p0), .ref (b 3), .ref (b 4), .ref (b 5), .ref (b 6), .ref (b 7), .ref (b 8), .int (I 10), .ref (b 9), .int (nI t), .int (I 13), .int (I 14), .int (I 15), .long W, .int (I 17), .int (I 18), .int (I 19), .int (I 20), .ref (b 10), .ref (b 11), .ref (b 12), .ref (b 13), .ref (b 14), .ref (b 15), .int (nI q), .int (nI mm), .ref (b 16), .ref (b 17), .ref (b 18), .ref (b 19), .ref (b 20), .ref (b 21), .int (I 35), .int (I 36), .int (I 37), .ref (b 22), .int (nI bd), .int (I 40), .int (I 41), .ref (b 23), .int (I 43), .ref (b 24)])), (b 3, .inl (g 0, 40, .inl a_events)), (b 16, .inl (g 0, 4, .inl a_sorts)), (b 17, .inl (g 0, 4, .inl a_sizes)), (b 18, .inl (g 2, 160, .inr (.inl a_sheets)))]) rfl ?_
    refine s_bif_eq (tgt := 34) B dX9_events_11 rfl (fun h11 => ?_) (fun h11 => ?_)
    · refine s_iconst B dX9_events_34 ic_m1 ?_
      refine s_iret B hQ hr dX9_events_35 rfl ?_
      exact ⟨a_events, by clear hQ B hr hsc; have ec : (nI k_3).toNatClampNeg = k_3 := nI_clamp (by omega); grind [mEv], (fun G ch9 rw9 cr9 tr9 lw9 it hI H => (by first | rw [← gEvs_no (by decide)]; exact H | (rw [← gEvs_no (by clear hQ B hr hsc; grind)]; exact H))), rfl⟩
    · obtain ⟨k_7, hk_8, rfl⟩ := nat_le (N := 39) h11.1 h11.2 (by decide)
      refine s_iload B dX9_events_14 4 rfl ?_
      refine s_iconst B dX9_events_16 ic_0 ?_
      refine s_bipush B dX9_events_17 bp_40 ?_
      refine s_callSi B hsc (c_X9_in l D g n0 0 40) (gw_S ml_X9_87 sm_yX9_in ini_RX9 co_yX9_in) hd_X9_in rfl rfl ⟨(Nat.le_of_ble_eq_true rfl), (Nat.le_of_ble_eq_true rfl)⟩ [] [0, 1, 2, 3, 4] rfl rfl rfl rfl rfl (Nat.le_of_ble_eq_true rfl) dX9_events_19 (fun r_9 u_10 hpo => ?_)
      obtain ⟨rfl, rfl⟩ := hpo
      refine s_st (st' := [.int (if ¬ n0 < 0 ∧ ¬ 40 < n0 then 1 else 0)]) rfl ?_
      refine s_ws (ws' := [(b 0, .inr (9, [.int (nI n), .ref (b 1), .ref (b 2), .int (nI p0), .ref (b 3), .ref (b 4), .ref (b 5), .ref (b 6), .ref (b 7), .ref (b 8), .int (I 10), .ref (b 9), .int (nI t), .int (I 13), .int (I 14), .int (I 15), .long W, .int (I 17), .int (I 18), .int (I 19), .int (I 20), .ref (b 10), .ref (b 11), .ref (b 12), .ref (b 13), .ref (b 14), .ref (b 15), .int (nI q), .int (nI mm), .ref (b 16), .ref (b 17), .ref (b 18), .ref (b 19), .ref (b 20), .ref (b 21), .int (I 35), .int (I 36), .int (I 37), .ref (b 22), .int (nI bd), .int (I 40), .int (I 41), .ref (b 23), .int (I 43), .ref (b 24)])), (b 3, .inl (g 0, 40, .inl a_events)), (b 16, .inl (g 0, 4, .inl a_sorts)), (b 17, .inl (g 0, 4, .inl a_sizes)), (b 18, .inl (g 2, 160, .inr (.inl a_sheets)))]) rfl ?_
      refine s_bif_eq (tgt := 34) B dX9_events_22 rfl (fun h22 => ?_) (fun h22 => ?_)
      · refine s_iconst B dX9_events_34 ic_m1 ?_
        refine s_iret B hQ hr dX9_events_35 rfl ?_
        exact ⟨a_events, by clear hQ B hr hsc; have ec : (nI k_3).toNatClampNeg = k_3 := nI_clamp (by omega); grind [mEv], (fun G ch9 rw9 cr9 tr9 lw9 it hI H => (by first | rw [← gEvs_no (by decide)]; exact H | (rw [← gEvs_no (by clear hQ B hr hsc; grind)]; exact H))), rfl⟩
      · obtain ⟨k_11, hk_12, rfl⟩ := nat_le (N := 40) h22.1 h22.2 (by decide)
        refine s_iload_n B dX9_events_25 rfl 3 rfl ?_
        refine s_iload B dX9_events_26 4 rfl ?_
        refine s_iaddE B dX9_events_28 (nI_add k_7 k_11) ?_
        refine s_bipush B dX9_events_29 bp_40 ?_
        refine s_icmp_le (tgt := 36) B dX9_events_31 rfl (fun h31 => ?_) (fun h31 => ?_)
        · replace h31 : (k_7 + k_11) ≤ 40 := (nI_leI (a := (k_7 + k_11)) (b := 40) (by omega) (by omega)).mp h31
          refine s_aload_n B dX9_events_36 rfl 0 rfl ?_
          refine s_iload_n B dX9_events_37 rfl 1 rfl ?_
          refine s_iconst B dX9_events_38 ic_0 ?_
          refine s_callVi B hsc (c_X9_lacksSort l D g b I W n p0 t q mm bd a_sorts k_3 0 (by omega) (by omega) (by omega) (by omega) (by omega) (by omega) (by first | assumption | decide | (intro h9; first | assumption | exact absurd h9 (by decide)) | omega | rfl | (refine ⟨_, ?_, by assumption⟩; omega) | (clear hQ B hr hsc; grind))) (gw_V ml_X9_269 im_yX9_lacksSort se_yX9_lacksSort ini_RX9 co_yX9_lacksSort) hd_X9_lacksSort rfl rfl ⟨(Nat.le_of_ble_eq_true rfl), (Nat.le_of_ble_eq_true rfl)⟩ [0, 2] [0, 1, 2, 3, 4] rfl rfl rfl (ci := 9) (q0 := 0) rfl rfl rfl rfl rfl (Nat.le_of_ble_eq_true rfl) dX9_events_39 (fun r_13 u_14 hpo => ?_)
          obtain ⟨hf_15, rfl⟩ := hpo
          refine s_ws (ws' := [(b 0, .inr (9, [.int (nI n), .ref (b 1), .ref (b 2), .int (nI p0), .ref (b 3), .ref (b 4), .ref (b 5), .ref (b 6), .ref (b 7), .ref (b 8), .int (I 10), .ref (b 9), .int (nI t), .int (I 13), .int (I 14), .int (I 15), .long W, .int (I 17), .int (I 18), .int (I 19), .int (I 20), .ref (b 10), .ref (b 11), .ref (b 12), .ref (b 13), .ref (b 14), .ref (b 15), .int (nI q), .int (nI mm), .ref (b 16), .ref (b 17), .ref (b 18), .ref (b 19), .ref (b 20), .ref (b 21), .int (I 35), .int (I 36), .int (I 37), .ref (b 22), .int (nI bd), .int (I 40), .int (I 41), .ref (b 23), .int (I 43), .ref (b 24)])), (b 3, .inl (g 0, 40, .inl a_events)), (b 16, .inl (g 0, 4, .inl a_sorts)), (b 17, .inl (g 0, 4, .inl a_sizes)), (b 18, .inl (g 2, 160, .inr (.inl a_sheets)))]) rfl ?_
          refine s_istore (lv' := [(5, _), (0, _), (1, _), (2, _), (3, _), (4, _)]) B dX9_events_42 (Nat.le_of_ble_eq_true rfl) rfl ?_
          refine s_iload B dX9_events_44 0 rfl ?_
          refine s_if_eq (tgt := 52) B dX9_events_46 rfl (fun h46 => ?_) (fun h46 => ?_)
          · refine s_iload_n B dX9_events_52 rfl 3 rfl ?_
            refine s_if_lt (tgt := 69) B dX9_events_53 rfl (fun h53 => ?_) (fun h53 => ?_)
            · refine s_bipush B dX9_events_69 bp_m12 ?_
              refine s_iret B hQ hr dX9_events_71 rfl ?_
              exact ⟨a_events, by clear hQ B hr hsc; have ec : (nI k_3).toNatClampNeg = k_3 := nI_clamp (by omega); have e31 := ev_add (a := k_7) (b := k_11) (by omega) (by omega); grind [mEv], (fun G ch9 rw9 cr9 tr9 lw9 it hI H => (by first | rw [← gEvs_no (by decide)]; exact H | (rw [← gEvs_no (by clear hQ B hr hsc; grind)]; exact H))), rfl⟩
            · refine s_iload_n B dX9_events_56 rfl 3 rfl ?_
              refine s_aload_n B dX9_events_57 rfl 1 rfl ?_
              refine s_get (T := TX9) B inX9 0 rfl rfl 30 (Nat.le_of_ble_eq_true rfl) fl_X9_62 rfl rfl dX9_events_58 ?_
              refine s_iload_n B dX9_events_61 rfl 2 rfl ?_
              refine s_ialdN B 3 0 rfl rfl dX9_events_62 (by omega) (by decide) ?_
              obtain ⟨d_16, hd_17, hr__18⟩ : le40 (a_sizes k_3) := ok_a_sizes k_3 (by omega)
              refine s_st (st' := [.int (nI d_16), .int i0]) (by rw [hr__18]) ?_
              refine s_iload B dX9_events_63 5 rfl ?_
              refine s_isub B dX9_events_65 ?_
              refine s_icmp_le (tgt := 72) B dX9_events_66 rfl (fun h66 => ?_) (fun h66 => ?_)
              · obtain ⟨k_19, hk_20, rfl⟩ := nat_sub (a := d_16) (b := k_11) (by first | assumption | (clear hQ B hr hsc; grind)) (by assumption) (by omega) (by omega)
                refine s_iconst B dX9_events_72 ic_0 ?_
                have L75 : ∀ (jj75 : Nat) (k_21 : Nat) (a_events_23 : Nat → Int32), 40 - k_21 < jj75 → (¬ (nI k_3) < 0 ∧ ¬ 3 < (nI k_3)) → (k_3 ≤ 3) → (¬ (nI k_7) < 0 ∧ ¬ 39 < (nI k_7)) → (k_7 ≤ 39) → (¬ (nI k_11) < 0 ∧ ¬ 40 < (nI k_11)) → (k_11 ≤ 40) → ((k_7 + k_11) ≤ 40) → (r_13 = if a_sorts k_3 < 0 then -11 else if ¬ a_sorts k_3 = 0 then -13 else 0) → (r_13 = 0) → (¬ (nI k_19) < 0) → (d_16 ≤ 40) → (a_sizes k_3 = nI d_16) → ((nI k_19) ≤ ((nI d_16) - (nI k_11))) → (k_19 + k_11 ≤ d_16) → (k_21 ≤ 40) → (k_21 ≤ k_11) → (a_events_23 = mFd (fun j => (a_sheets (40 * k_3 + k_19 + j) &&& 31).toInt32) a_events k_7 k_21) → Sx p l e rmX9_events s m args below meth c D vwCl A 7 Q 75 [(0, .ref (b 0)), (1, .int (nI k_3)), (2, .int (nI k_19)), (3, .int (nI k_7)), (4, .int (nI k_11)), (6, .int (nI k_21))] [] [(b 0, .inr (9, [.int (nI n), .ref (b 1), .ref (b 2), .int (nI p0), .ref (b 3), .ref (b 4), .ref (b 5), .ref (b 6), .ref (b 7), .ref (b 8), .int (I 10), .ref (b 9), .int (nI t), .int (I 13), .int (I 14), .int (I 15), .long W, .int (I 17), .int (I 18), .int (I 19), .int (I 20), .ref (b 10), .ref (b 11), .ref (b 12), .ref (b 13), .ref (b 14), .ref (b 15), .int (nI q), .int (nI mm), .ref (b 16), .ref (b 17), .ref (b 18), .ref (b 19), .ref (b 20), .ref (b 21), .int (I 35), .int (I 36), .int (I 37), .ref (b 22), .int (nI bd), .int (I 40), .int (I 41), .ref (b 23), .int (I 43), .ref (b 24)])), (b 3, .inl (g 0, 40, .inl a_events_23)), (b 16, .inl (g 0, 4, .inl a_sorts)), (b 17, .inl (g 0, 4, .inl a_sizes)), (b 18, .inl (g 2, 160, .inr (.inl a_sheets)))] := by
                  intro jj75
                  induction jj75 with
                  | zero => intro k_21 a_events_23 hj; exact absurd hj (Nat.not_lt_zero _)
                  | succ jj75 ih75 =>
                    intro k_21 a_events_23 hj75 h4 hk_4 h11 hk_8 h22 hk_12 h31 hf_15 h46 h53 hd_17 hr__18 h66 hk_20 h_22 hj_24 hE_25
                    refine s_iload B dX9_events_75 5 rfl ?_
                    refine s_iload B dX9_events_77 4 rfl ?_
                    refine s_icmp_ge (tgt := 116) B dX9_events_79 rfl (fun h79 => ?_) (fun h79 => ?_)
                    · replace h79 : k_11 ≤ k_21 := (nI_leI (a := k_11) (b := k_21) (by omega) (by omega)).mp h79
                      refine s_iload B dX9_events_116 4 rfl ?_
                      refine s_iret B hQ hr dX9_events_118 rfl ?_
                      exact ⟨a_events_23, by clear hQ B hr hsc; have ec : (nI k_3).toNatClampNeg = k_3 := nI_clamp (by omega); have e31 := ev_add (a := k_7) (b := k_11) (by omega) (by omega); grind [mEv], (fun G ch9 rw9 cr9 tr9 lw9 it hI H => (H.evs_ok hI (by omega) (by omega) (by omega) (by rw [hE_25, show k_21 = k_11 from by omega]))), rfl⟩
                    · replace h79 : ¬ k_11 ≤ k_21 := fun hh => h79 ((nI_leI (a := k_11) (b := k_21) (by omega) (by omega)).mpr hh)
                      refine s_aload_n B dX9_events_82 rfl 0 rfl ?_
                      refine s_get (T := TX9) B inX9 0 rfl rfl 4 (Nat.le_of_ble_eq_true rfl) fl_X9_16 rfl rfl dX9_events_83 ?_
                      refine s_iload_n B dX9_events_86 rfl 3 rfl ?_
                      refine s_iload B dX9_events_87 5 rfl ?_
                      refine s_iaddE B dX9_events_89 (nI_add k_7 k_21) ?_
                      refine s_aload_n B dX9_events_90 rfl 0 rfl ?_
                      refine s_get (T := TX9) B inX9 0 rfl rfl 31 (Nat.le_of_ble_eq_true rfl) fl_X9_65 rfl rfl dX9_events_91 ?_
                      refine s_bipush B dX9_events_94 bp_40 ?_
                      refine s_iload_n B dX9_events_96 rfl 1 rfl ?_
                      refine s_imulE B dX9_events_97 (pk_mul 40 k_3) ?_
                      refine s_iload_n B dX9_events_98 rfl 2 rfl ?_
                      refine s_iaddE B dX9_events_99 (nI_add (40 * k_3) k_19) ?_
                      refine s_iload B dX9_events_100 5 rfl ?_
                      refine s_iaddE B dX9_events_102 (nI_add ((40 * k_3) + k_19) k_21) ?_
                      refine s_laldN B 4 2 rfl rfl dX9_events_103 (by omega) (by decide) ?_
                      refine s_ldc2 B cn_X9_272 dX9_events_104 ?_
                      refine s_land B dX9_events_107 ?_
                      refine s_l2i B dX9_events_108 rfl ?_
                      refine s_iastN (ws' := [_, _, _, _, _]) B 1 0 rfl rfl rfl dX9_events_109 (by omega) (by decide) ?_
                      refine s_iinc (lv' := [(6, _), (0, _), (1, _), (2, _), (3, _), (4, _)]) (k := 5) B dX9_events_110 rfl (ii_n _) (Nat.le_of_ble_eq_true rfl) rfl ?_
                      refine s_goto (tgt := 75) B dX9_events_113 rfl ?_
                      refine s_lv (lv' := [(0, _), (1, _), (2, _), (3, _), (4, _), (6, _)]) [1, 2, 3, 4, 5, 0] rfl ?_
                      exact ih75 (k_21 + 1) (upd a_events_23 (k_7 + k_21) (((a_sheets (((40 * k_3) + k_19) + k_21)) &&& 31).toInt32)) (by omega) h4 hk_4 h11 hk_8 h22 hk_12 h31 hf_15 h46 h53 hd_17 hr__18 h66 hk_20 (by omega) (by omega) (mFd_u hE_25 rfl rfl)
                refine s_istore (lv' := [(6, _), (5, _), (0, _), (1, _), (2, _), (3, _), (4, _)]) B dX9_events_73 (Nat.le_of_ble_eq_true rfl) rfl ?_
                refine s_lv (lv' := [(0, _), (1, _), (2, _), (3, _), (4, _), (6, _)]) [2, 3, 4, 5, 6, 0] rfl ?_
                refine s_lve (lv' := [(0, .ref (b 0)), (1, .int (nI k_3)), (2, .int (nI k_19)), (3, .int (nI k_7)), (4, .int (nI k_11)), (6, .int (nI 0))]) (by first | rfl | (simp only [if_pos, if_neg]; done)) ?_
                exact L75 _ 0 a_events (Nat.lt_succ_self _) h4 hk_4 h11 hk_8 h22 hk_12 h31 hf_15 h46 h53 hd_17 hr__18 h66 hk_20 (by omega) (by omega) (mFd_0 _ _ _)
              · refine s_bipush B dX9_events_69 bp_m12 ?_
                refine s_iret B hQ hr dX9_events_71 rfl ?_
                exact ⟨a_events, by clear hQ B hr hsc; have ec : (nI k_3).toNatClampNeg = k_3 := nI_clamp (by omega); have e31 := ev_add (a := k_7) (b := k_11) (by omega) (by omega); grind [mEv], (fun G ch9 rw9 cr9 tr9 lw9 it hI H => (by first | rw [← gEvs_no (by decide)]; exact H | (rw [← gEvs_no (by clear hQ B hr hsc; grind)]; exact H))), rfl⟩
          · refine s_iload B dX9_events_49 0 rfl ?_
            refine s_iret B hQ hr dX9_events_51 rfl ?_
            exact ⟨a_events, by clear hQ B hr hsc; have ec : (nI k_3).toNatClampNeg = k_3 := nI_clamp (by omega); have e31 := ev_add (a := k_7) (b := k_11) (by omega) (by omega); grind [mEv], (fun G ch9 rw9 cr9 tr9 lw9 it hI H => (by first | rw [← gEvs_no (by decide)]; exact H | (rw [← gEvs_no (by clear hQ B hr hsc; grind)]; exact H))), rfl⟩
        · replace h31 : ¬ (k_7 + k_11) ≤ 40 := fun hh => h31 ((nI_leI (a := (k_7 + k_11)) (b := 40) (by omega) (by omega)).mpr hh)
          refine s_iconst B dX9_events_34 ic_m1 ?_
          refine s_iret B hQ hr dX9_events_35 rfl ?_
          exact ⟨a_events, by clear hQ B hr hsc; have ec : (nI k_3).toNatClampNeg = k_3 := nI_clamp (by omega); have e31 := ev_add (a := k_7) (b := k_11) (by omega) (by omega); grind [mEv], (fun G ch9 rw9 cr9 tr9 lw9 it hI H => (by first | rw [← gEvs_no (by decide)]; exact H | (rw [← gEvs_no (by clear hQ B hr hsc; grind)]; exact H))), rfl⟩
def rmX9_put : Room := { frames := 2, cells := 0, slots := 0, locals := 42 }
theorem hd_X9_put : yX9_put.cls = RX9 ∧ yX9_put.cls ≠ "java/lang/invoke/MethodHandle" ∧ yX9_put.cls ≠ "java/lang/invoke/VarHandle" ∧ (parseMethodDescriptor yX9_put.desc).map (fun d => d.parameters.length) = some 3 := by decide +kernel
set_option maxHeartbeats 4000000 in
set_option maxRecDepth 100000 in
theorem c_X9_put (l : Launch) (D : va_G) (g : Nat → ClassId) (b : Nat → Nat) (I : Nat → Int32) (W : Int64) (n p0 t q mm bd : Nat) (a_sorts : Nat → Int32) (a_sizes : Nat → Int32) (a_sheets : Nat → Int64) (s0 : Int32) (i0 : Int32) (v0 : Int32) (hn : n ≤ 8) (hp : p0 = 0 ∨ p0 = 25) (ht : t ≤ 240) (hq0 : q ≤ 20) (hmm : mm ≤ 20) (hbd : bd ≤ 30) (ok_a_sizes : SizOk a_sizes) : Ci l yX9_put (WW yX9_put cX9_put 4 (some FieldType.int)) rmX9_put D vwCl (TY g) [.ref (b 0), .int s0, .int i0, .int v0] [(b 0, .inr (9, [.int (nI n), .ref (b 1), .ref (b 2), .int (nI p0), .ref (b 3), .ref (b 4), .ref (b 5), .ref (b 6), .ref (b 7), .ref (b 8), .int (I 10), .ref (b 9), .int (nI t), .int (I 13), .int (I 14), .int (I 15), .long W, .int (I 17), .int (I 18), .int (I 19), .int (I 20), .ref (b 10), .ref (b 11), .ref (b 12), .ref (b 13), .ref (b 14), .ref (b 15), .int (nI q), .int (nI mm), .ref (b 16), .ref (b 17), .ref (b 18), .ref (b 19), .ref (b 20), .ref (b 21), .int (I 35), .int (I 36), .int (I 37), .ref (b 22), .int (nI bd), .int (I 40), .int (I 41), .ref (b 23), .int (I 43), .ref (b 24)])), (b 16, .inl (g 0, 4, .inl a_sorts)), (b 17, .inl (g 0, 4, .inl a_sizes)), (b 18, .inl (g 2, 160, .inr (.inl a_sheets)))] (fun r u => ∃ (a_sheets' : Nat → Int64), (r = mPut s0 i0 a_sorts a_sizes) ∧ (∀ j i : Nat, j < 4 → i < 40 → a_sheets' (40 * j + i) = mPj r s0 i0 v0 (a_sorts j) j (fun i => a_sheets (40 * j + i)) i) ∧ u = [(b 0, .inr (9, [.int (nI n), .ref (b 1), .ref (b 2), .int (nI p0), .ref (b 3), .ref (b 4), .ref (b 5), .ref (b 6), .ref (b 7), .ref (b 8), .int (I 10), .ref (b 9), .int (nI t), .int (I 13), .int (I 14), .int (I 15), .long W, .int (I 17), .int (I 18), .int (I 19), .int (I 20), .ref (b 10), .ref (b 11), .ref (b 12), .ref (b 13), .ref (b 14), .ref (b 15), .int (nI q), .int (nI mm), .ref (b 16), .ref (b 17), .ref (b 18), .ref (b 19), .ref (b 20), .ref (b 21), .int (I 35), .int (I 36), .int (I 37), .ref (b 22), .int (nI bd), .int (I 40), .int (I 41), .ref (b 23), .int (I 43), .ref (b 24)])), (b 16, .inl (g 0, 4, .inl a_sorts)), (b 17, .inl (g 0, 4, .inl a_sizes)), (b 18, .inl (g 2, 160, .inr (.inl a_sheets')))]) := by
  refine ci_in (by decide) (Nat.le_of_ble_eq_true rfl) (a0 := [b 0, b 16, b 17, b 18]) rfl (fun p e s m args below meth c A Q hQ B hr hsc => ?_)
  refine s_iload_n B dX9_put_0 rfl 1 rfl ?_
  refine s_callSi B hsc (c_X9_isShelf l D g s0) (gw_S ml_X9_266 sm_yX9_isShelf ini_RX9 co_yX9_isShelf) hd_X9_isShelf rfl rfl ⟨(Nat.le_of_ble_eq_true rfl), (Nat.le_of_ble_eq_true rfl)⟩ [] [0, 1, 2, 3, 4] rfl rfl rfl rfl rfl (Nat.le_of_ble_eq_true rfl) dX9_put_1 (fun r_1 u_2 hpo => ?_)
  obtain ⟨rfl, rfl⟩ := hpo
  refine s_st (st' := [.int (if ¬ s0 < 0 ∧ ¬ 3 < s0 then 1 else 0)]) rfl ?_
  refine s_ws (ws' := [(b 0, .inr (9, [.int (nI n), .ref (b 1), .ref (b 2), .int (nI p0), .ref (b 3), .ref (b 4), .ref (b 5), .ref (b 6), .ref (b 7), .ref (b 8), .int (I 10), .ref (b 9), .int (nI t), .int (I 13), .int (I 14), .int (I 15), .long W, .int (I 17), .int (I 18), .int (I 19), .int (I 20), .ref (b 10), .ref (b 11), .ref (b 12), .ref (b 13), .ref (b 14), .ref (b 15), .int (nI q), .int (nI mm), .ref (b 16), .ref (b 17), .ref (b 18), .ref (b 19), .ref (b 20), .ref (b 21), .int (I 35), .int (I 36), .int (I 37), .ref (b 22), .int (nI bd), .int (I 40), .int (I 41), .ref (b 23), .int (I 43), .ref (b 24)])), (b 16, .inl (g 0, 4, .inl a_sorts)), (b 17, .inl (g 0, 4, .inl a_sizes)), (b 18, .inl (g 2, 160, .inr (.inl a_sheets)))]) rfl ?_
  refine s_bif_ne (tgt := 9) B dX9_put_4 rfl (fun h4 => ?_) (fun h4 => ?_)
  · obtain ⟨k_3, hk_4, rfl⟩ := nat_le (N := 3) h4.1 h4.2 (by decide)
    refine s_aload_n B dX9_put_9 rfl 0 rfl ?_
    refine s_get (T := TX9) B inX9 0 rfl rfl 29 (Nat.le_of_ble_eq_true rfl) fl_X9_59 rfl rfl dX9_put_10 ?_
    refine s_iload_n B dX9_put_13 rfl 1 rfl ?_
    refine s_ialdN B 1 0 rfl rfl dX9_put_14 (by omega) (by decide) ?_
    refine s_if_ge (tgt := 21) B dX9_put_15 rfl (fun h15 => ?_) (fun h15 => ?_)
    · refine s_iload_n B dX9_put_21 rfl 2 rfl ?_
      refine s_iconst B dX9_put_22 ic_0 ?_
      refine s_aload_n B dX9_put_23 rfl 0 rfl ?_
      refine s_get (T := TX9) B inX9 0 rfl rfl 30 (Nat.le_of_ble_eq_true rfl) fl_X9_62 rfl rfl dX9_put_24 ?_
      refine s_iload_n B dX9_put_27 rfl 1 rfl ?_
      refine s_ialdN B 2 0 rfl rfl dX9_put_28 (by omega) (by decide) ?_
      obtain ⟨d_5, hd_6, hr__7⟩ : le40 (a_sizes k_3) := ok_a_sizes k_3 (by omega)
      refine s_st (st' := [.int (nI d_5), .int 0, .int i0]) (by rw [hr__7]) ?_
      refine s_iconst B dX9_put_29 ic_1 ?_
      refine s_isub B dX9_put_30 ?_
      refine s_callSi B hsc (c_X9_in l D g i0 0 ((nI d_5) - 1)) (gw_S ml_X9_87 sm_yX9_in ini_RX9 co_yX9_in) hd_X9_in rfl rfl ⟨(Nat.le_of_ble_eq_true rfl), (Nat.le_of_ble_eq_true rfl)⟩ [] [0, 1, 2, 3, 4] rfl rfl rfl rfl rfl (Nat.le_of_ble_eq_true rfl) dX9_put_31 (fun r_8 u_9 hpo => ?_)
      obtain ⟨rfl, rfl⟩ := hpo
      refine s_st (st' := [.int (if ¬ i0 < 0 ∧ ¬ ((nI d_5) - 1) < i0 then 1 else 0)]) rfl ?_
      refine s_ws (ws' := [(b 0, .inr (9, [.int (nI n), .ref (b 1), .ref (b 2), .int (nI p0), .ref (b 3), .ref (b 4), .ref (b 5), .ref (b 6), .ref (b 7), .ref (b 8), .int (I 10), .ref (b 9), .int (nI t), .int (I 13), .int (I 14), .int (I 15), .long W, .int (I 17), .int (I 18), .int (I 19), .int (I 20), .ref (b 10), .ref (b 11), .ref (b 12), .ref (b 13), .ref (b 14), .ref (b 15), .int (nI q), .int (nI mm), .ref (b 16), .ref (b 17), .ref (b 18), .ref (b 19), .ref (b 20), .ref (b 21), .int (I 35), .int (I 36), .int (I 37), .ref (b 22), .int (nI bd), .int (I 40), .int (I 41), .ref (b 23), .int (I 43), .ref (b 24)])), (b 16, .inl (g 0, 4, .inl a_sorts)), (b 17, .inl (g 0, 4, .inl a_sizes)), (b 18, .inl (g 2, 160, .inr (.inl a_sheets)))]) rfl ?_
      refine s_bif_ne (tgt := 40) B dX9_put_34 rfl (fun h34 => ?_) (fun h34 => ?_)
      · obtain ⟨k_10, hk_11, rfl⟩ := nat_lt1 (N := d_5) h34.1 h34.2 (by omega)
        refine s_aload_n B dX9_put_40 rfl 0 rfl ?_
        refine s_get (T := TX9) B inX9 0 rfl rfl 31 (Nat.le_of_ble_eq_true rfl) fl_X9_65 rfl rfl dX9_put_41 ?_
        refine s_bipush B dX9_put_44 bp_40 ?_
        refine s_iload_n B dX9_put_46 rfl 1 rfl ?_
        refine s_imulE B dX9_put_47 (pk_mul 40 k_3) ?_
        refine s_iload_n B dX9_put_48 rfl 2 rfl ?_
        refine s_iaddE B dX9_put_49 (nI_add (40 * k_3) k_10) ?_
        refine s_aload_n B dX9_put_50 rfl 0 rfl ?_
        refine s_get (T := TX9) B inX9 0 rfl rfl 29 (Nat.le_of_ble_eq_true rfl) fl_X9_59 rfl rfl dX9_put_51 ?_
        refine s_iload_n B dX9_put_54 rfl 1 rfl ?_
        refine s_ialdN B 1 0 rfl rfl dX9_put_55 (by omega) (by decide) ?_
        refine s_if_ne (tgt := 65) B dX9_put_56 rfl (fun h56 => ?_) (fun h56 => ?_)
        · refine s_aload_n B dX9_put_65 rfl 0 rfl ?_
          refine s_get (T := TX9) B inX9 0 rfl rfl 29 (Nat.le_of_ble_eq_true rfl) fl_X9_59 rfl rfl dX9_put_66 ?_
          refine s_iload_n B dX9_put_69 rfl 1 rfl ?_
          refine s_ialdN B 1 0 rfl rfl dX9_put_70 (by omega) (by decide) ?_
          refine s_iconst B dX9_put_71 ic_1 ?_
          refine s_icmp_ne (tgt := 81) B dX9_put_72 rfl (fun h72 => ?_) (fun h72 => ?_)
          · refine s_iload_n B dX9_put_81 rfl 3 rfl ?_
            refine s_i2l B dX9_put_82 rfl ?_
            refine s_lastN (ws' := [_, _, _, _]) B 3 2 rfl rfl rfl dX9_put_83 (by omega) (by decide) ?_
            refine s_iconst B dX9_put_84 ic_1 ?_
            refine s_iret B hQ hr dX9_put_85 rfl ?_
            exact ⟨(vp_updL a_sheets ((40 * k_3) + k_10) v0.toInt64), by clear hQ B hr hsc; have ec : (nI k_3).toNatClampNeg = k_3 := nI_clamp (by omega); grind [mPut], (ShP_f (by omega) (by omega) (by unfold mNar; first | rw [if_pos (by assumption)] | rw [if_neg (by assumption), if_pos (by assumption)] | rw [if_neg (by assumption), if_neg (by assumption)])), rfl⟩
          · refine s_iload_n B dX9_put_75 rfl 3 rfl ?_
            refine s_i2s B dX9_put_76 rfl ?_
            refine s_i2l B dX9_put_77 rfl ?_
            refine s_goto (tgt := 83) B dX9_put_78 rfl ?_
            refine s_lastN (ws' := [_, _, _, _]) B 3 2 rfl rfl rfl dX9_put_83 (by omega) (by decide) ?_
            refine s_iconst B dX9_put_84 ic_1 ?_
            refine s_iret B hQ hr dX9_put_85 rfl ?_
            exact ⟨(vp_updL a_sheets ((40 * k_3) + k_10) v0.toInt16.toInt32.toInt64), by clear hQ B hr hsc; have ec : (nI k_3).toNatClampNeg = k_3 := nI_clamp (by omega); grind [mPut], (ShP_f (by omega) (by omega) (by unfold mNar; first | rw [if_pos (by assumption)] | rw [if_neg (by assumption), if_pos (by assumption)] | rw [if_neg (by assumption), if_neg (by assumption)])), rfl⟩
        · refine s_iload_n B dX9_put_59 rfl 3 rfl ?_
          refine s_i2b B dX9_put_60 rfl ?_
          refine s_i2l B dX9_put_61 rfl ?_
          refine s_goto (tgt := 83) B dX9_put_62 rfl ?_
          refine s_lastN (ws' := [_, _, _, _]) B 3 2 rfl rfl rfl dX9_put_83 (by omega) (by decide) ?_
          refine s_iconst B dX9_put_84 ic_1 ?_
          refine s_iret B hQ hr dX9_put_85 rfl ?_
          exact ⟨(vp_updL a_sheets ((40 * k_3) + k_10) v0.toInt8.toInt32.toInt64), by clear hQ B hr hsc; have ec : (nI k_3).toNatClampNeg = k_3 := nI_clamp (by omega); grind [mPut], (ShP_f (by omega) (by omega) (by unfold mNar; first | rw [if_pos (by assumption)] | rw [if_neg (by assumption), if_pos (by assumption)] | rw [if_neg (by assumption), if_neg (by assumption)])), rfl⟩
      · refine s_bipush B dX9_put_37 bp_m12 ?_
        refine s_iret B hQ hr dX9_put_39 rfl ?_
        exact ⟨a_sheets, by clear hQ B hr hsc; have ec : (nI k_3).toNatClampNeg = k_3 := nI_clamp (by omega); grind [mPut], (fun j i hj hi => by rw [← mPj_no (by decide)]), rfl⟩
    · refine s_bipush B dX9_put_18 bp_m11 ?_
      refine s_iret B hQ hr dX9_put_20 rfl ?_
      exact ⟨a_sheets, by clear hQ B hr hsc; have ec : (nI k_3).toNatClampNeg = k_3 := nI_clamp (by omega); grind [mPut], (fun j i hj hi => by rw [← mPj_no (by decide)]), rfl⟩
  · refine s_iconst B dX9_put_7 ic_m1 ?_
    refine s_iret B hQ hr dX9_put_8 rfl ?_
    exact ⟨a_sheets, by clear hQ B hr hsc; grind [mPut], (fun j i hj hi => by rw [← mPj_no (by decide)]), rfl⟩
def rmX9_item : Room := { frames := 2, cells := 0, slots := 0, locals := 42 }
theorem hd_X9_item : yX9_item.cls = RX9 ∧ yX9_item.cls ≠ "java/lang/invoke/MethodHandle" ∧ yX9_item.cls ≠ "java/lang/invoke/VarHandle" ∧ (parseMethodDescriptor yX9_item.desc).map (fun d => d.parameters.length) = some 3 := by decide +kernel
set_option maxHeartbeats 4000000 in
set_option maxRecDepth 100000 in
theorem c_X9_item (l : Launch) (D : va_G) (g : Nat → ClassId) (b : Nat → Nat) (I : Nat → Int32) (W : Int64) (n p0 t q mm bd : Nat) (a_sorts : Nat → Int32) (a_sizes : Nat → Int32) (a_sheets : Nat → Int64) (s0 : Int32) (x0 : Int32) (i0 : Int32) (hn : n ≤ 8) (hp : p0 = 0 ∨ p0 = 25) (ht : t ≤ 240) (hq0 : q ≤ 20) (hmm : mm ≤ 20) (hbd : bd ≤ 30) (ok_a_sizes : SizOk a_sizes) : Ci l yX9_item (WW yX9_item cX9_item 5 (some FieldType.int)) rmX9_item D vwCl (TY g) [.ref (b 0), .int s0, .int x0, .int i0] [(b 0, .inr (9, [.int (nI n), .ref (b 1), .ref (b 2), .int (nI p0), .ref (b 3), .ref (b 4), .ref (b 5), .ref (b 6), .ref (b 7), .ref (b 8), .int (I 10), .ref (b 9), .int (nI t), .int (I 13), .int (I 14), .int (I 15), .long W, .int (I 17), .int (I 18), .int (I 19), .int (I 20), .ref (b 10), .ref (b 11), .ref (b 12), .ref (b 13), .ref (b 14), .ref (b 15), .int (nI q), .int (nI mm), .ref (b 16), .ref (b 17), .ref (b 18), .ref (b 19), .ref (b 20), .ref (b 21), .int (I 35), .int (I 36), .int (I 37), .ref (b 22), .int (nI bd), .int (I 40), .int (I 41), .ref (b 23), .int (I 43), .ref (b 24)])), (b 16, .inl (g 0, 4, .inl a_sorts)), (b 17, .inl (g 0, 4, .inl a_sizes)), (b 18, .inl (g 2, 160, .inr (.inl a_sheets)))] (fun r u => (r = mItR s0 x0 i0 a_sorts a_sizes (fun k j => a_sheets (40 * k + j))) ∧ u = [(b 0, .inr (9, [.int (nI n), .ref (b 1), .ref (b 2), .int (nI p0), .ref (b 3), .ref (b 4), .ref (b 5), .ref (b 6), .ref (b 7), .ref (b 8), .int (I 10), .ref (b 9), .int (nI t), .int (I 13), .int (I 14), .int (I 15), .long W, .int (I 17), .int (I 18), .int (I 19), .int (I 20), .ref (b 10), .ref (b 11), .ref (b 12), .ref (b 13), .ref (b 14), .ref (b 15), .int (nI q), .int (nI mm), .ref (b 16), .ref (b 17), .ref (b 18), .ref (b 19), .ref (b 20), .ref (b 21), .int (I 35), .int (I 36), .int (I 37), .ref (b 22), .int (nI bd), .int (I 40), .int (I 41), .ref (b 23), .int (I 43), .ref (b 24)])), (b 16, .inl (g 0, 4, .inl a_sorts)), (b 17, .inl (g 0, 4, .inl a_sizes)), (b 18, .inl (g 2, 160, .inr (.inl a_sheets)))]) := by
  refine ci_in (by decide) (Nat.le_of_ble_eq_true rfl) (a0 := [b 0, b 16, b 17, b 18]) rfl (fun p e s m args below meth c A Q hQ B hr hsc => ?_)
  refine s_iload_n B dX9_item_0 rfl 1 rfl ?_
  refine s_callSi B hsc (c_X9_isShelf l D g s0) (gw_S ml_X9_266 sm_yX9_isShelf ini_RX9 co_yX9_isShelf) hd_X9_isShelf rfl rfl ⟨(Nat.le_of_ble_eq_true rfl), (Nat.le_of_ble_eq_true rfl)⟩ [] [0, 1, 2, 3, 4] rfl rfl rfl rfl rfl (Nat.le_of_ble_eq_true rfl) dX9_item_1 (fun r_1 u_2 hpo => ?_)
  obtain ⟨rfl, rfl⟩ := hpo
  refine s_st (st' := [.int (if ¬ s0 < 0 ∧ ¬ 3 < s0 then 1 else 0)]) rfl ?_
  refine s_ws (ws' := [(b 0, .inr (9, [.int (nI n), .ref (b 1), .ref (b 2), .int (nI p0), .ref (b 3), .ref (b 4), .ref (b 5), .ref (b 6), .ref (b 7), .ref (b 8), .int (I 10), .ref (b 9), .int (nI t), .int (I 13), .int (I 14), .int (I 15), .long W, .int (I 17), .int (I 18), .int (I 19), .int (I 20), .ref (b 10), .ref (b 11), .ref (b 12), .ref (b 13), .ref (b 14), .ref (b 15), .int (nI q), .int (nI mm), .ref (b 16), .ref (b 17), .ref (b 18), .ref (b 19), .ref (b 20), .ref (b 21), .int (I 35), .int (I 36), .int (I 37), .ref (b 22), .int (nI bd), .int (I 40), .int (I 41), .ref (b 23), .int (I 43), .ref (b 24)])), (b 16, .inl (g 0, 4, .inl a_sorts)), (b 17, .inl (g 0, 4, .inl a_sizes)), (b 18, .inl (g 2, 160, .inr (.inl a_sheets)))]) rfl ?_
  refine s_bif_eq (tgt := 16) B dX9_item_4 rfl (fun h4 => ?_) (fun h4 => ?_)
  · refine s_iconst B dX9_item_16 ic_m1 ?_
    refine s_iret B hQ hr dX9_item_17 rfl ?_
    exact ⟨(by clear hQ B hr hsc; grind [mItR]), rfl⟩
  · obtain ⟨k_3, hk_4, rfl⟩ := nat_le (N := 3) h4.1 h4.2 (by decide)
    refine s_iload_n B dX9_item_7 rfl 2 rfl ?_
    refine s_iconst B dX9_item_8 ic_0 ?_
    refine s_iconst B dX9_item_9 ic_3 ?_
    refine s_callSi B hsc (c_X9_in l D g x0 0 3) (gw_S ml_X9_87 sm_yX9_in ini_RX9 co_yX9_in) hd_X9_in rfl rfl ⟨(Nat.le_of_ble_eq_true rfl), (Nat.le_of_ble_eq_true rfl)⟩ [] [0, 1, 2, 3, 4] rfl rfl rfl rfl rfl (Nat.le_of_ble_eq_true rfl) dX9_item_10 (fun r_5 u_6 hpo => ?_)
    obtain ⟨rfl, rfl⟩ := hpo
    refine s_st (st' := [.int (if ¬ x0 < 0 ∧ ¬ 3 < x0 then 1 else 0)]) rfl ?_
    refine s_ws (ws' := [(b 0, .inr (9, [.int (nI n), .ref (b 1), .ref (b 2), .int (nI p0), .ref (b 3), .ref (b 4), .ref (b 5), .ref (b 6), .ref (b 7), .ref (b 8), .int (I 10), .ref (b 9), .int (nI t), .int (I 13), .int (I 14), .int (I 15), .long W, .int (I 17), .int (I 18), .int (I 19), .int (I 20), .ref (b 10), .ref (b 11), .ref (b 12), .ref (b 13), .ref (b 14), .ref (b 15), .int (nI q), .int (nI mm), .ref (b 16), .ref (b 17), .ref (b 18), .ref (b 19), .ref (b 20), .ref (b 21), .int (I 35), .int (I 36), .int (I 37), .ref (b 22), .int (nI bd), .int (I 40), .int (I 41), .ref (b 23), .int (I 43), .ref (b 24)])), (b 16, .inl (g 0, 4, .inl a_sorts)), (b 17, .inl (g 0, 4, .inl a_sizes)), (b 18, .inl (g 2, 160, .inr (.inl a_sheets)))]) rfl ?_
    refine s_bif_ne (tgt := 18) B dX9_item_13 rfl (fun h13 => ?_) (fun h13 => ?_)
    · obtain ⟨k_7, hk_8, rfl⟩ := nat_le (N := 3) h13.1 h13.2 (by decide)
      refine s_aload_n B dX9_item_18 rfl 0 rfl ?_
      refine s_iload_n B dX9_item_19 rfl 1 rfl ?_
      refine s_iload_n B dX9_item_20 rfl 2 rfl ?_
      refine s_callVi B hsc (c_X9_lacksSort l D g b I W n p0 t q mm bd a_sorts k_3 (nI k_7) (by omega) (by omega) (by omega) (by omega) (by omega) (by omega) (by first | assumption | decide | (intro h9; first | assumption | exact absurd h9 (by decide)) | omega | rfl | (refine ⟨_, ?_, by assumption⟩; omega) | (clear hQ B hr hsc; grind))) (gw_V ml_X9_269 im_yX9_lacksSort se_yX9_lacksSort ini_RX9 co_yX9_lacksSort) hd_X9_lacksSort rfl rfl ⟨(Nat.le_of_ble_eq_true rfl), (Nat.le_of_ble_eq_true rfl)⟩ [0, 1] [0, 1, 2, 3, 4] rfl rfl rfl (ci := 9) (q0 := 0) rfl rfl rfl rfl rfl (Nat.le_of_ble_eq_true rfl) dX9_item_21 (fun r_9 u_10 hpo => ?_)
      obtain ⟨hf_11, rfl⟩ := hpo
      refine s_ws (ws' := [(b 0, .inr (9, [.int (nI n), .ref (b 1), .ref (b 2), .int (nI p0), .ref (b 3), .ref (b 4), .ref (b 5), .ref (b 6), .ref (b 7), .ref (b 8), .int (I 10), .ref (b 9), .int (nI t), .int (I 13), .int (I 14), .int (I 15), .long W, .int (I 17), .int (I 18), .int (I 19), .int (I 20), .ref (b 10), .ref (b 11), .ref (b 12), .ref (b 13), .ref (b 14), .ref (b 15), .int (nI q), .int (nI mm), .ref (b 16), .ref (b 17), .ref (b 18), .ref (b 19), .ref (b 20), .ref (b 21), .int (I 35), .int (I 36), .int (I 37), .ref (b 22), .int (nI bd), .int (I 40), .int (I 41), .ref (b 23), .int (I 43), .ref (b 24)])), (b 16, .inl (g 0, 4, .inl a_sorts)), (b 17, .inl (g 0, 4, .inl a_sizes)), (b 18, .inl (g 2, 160, .inr (.inl a_sheets)))]) rfl ?_
      refine s_istore (lv' := [(4, _), (0, _), (1, _), (2, _), (3, _)]) B dX9_item_24 (Nat.le_of_ble_eq_true rfl) rfl ?_
      refine s_iload B dX9_item_26 0 rfl ?_
      refine s_if_eq (tgt := 34) B dX9_item_28 rfl (fun h28 => ?_) (fun h28 => ?_)
      · refine s_iload_n B dX9_item_34 rfl 4 rfl ?_
        refine s_iconst B dX9_item_35 ic_0 ?_
        refine s_aload_n B dX9_item_36 rfl 1 rfl ?_
        refine s_get (T := TX9) B inX9 0 rfl rfl 30 (Nat.le_of_ble_eq_true rfl) fl_X9_62 rfl rfl dX9_item_37 ?_
        refine s_iload_n B dX9_item_40 rfl 2 rfl ?_
        refine s_ialdN B 2 0 rfl rfl dX9_item_41 (by omega) (by decide) ?_
        obtain ⟨d_12, hd_13, hr__14⟩ : le40 (a_sizes k_3) := ok_a_sizes k_3 (by omega)
        refine s_st (st' := [.int (nI d_12), .int 0, .int i0]) (by rw [hr__14]) ?_
        refine s_iconst B dX9_item_42 ic_1 ?_
        refine s_isub B dX9_item_43 ?_
        refine s_callSi B hsc (c_X9_in l D g i0 0 ((nI d_12) - 1)) (gw_S ml_X9_87 sm_yX9_in ini_RX9 co_yX9_in) hd_X9_in rfl rfl ⟨(Nat.le_of_ble_eq_true rfl), (Nat.le_of_ble_eq_true rfl)⟩ [] [0, 1, 2, 3, 4] rfl rfl rfl rfl rfl (Nat.le_of_ble_eq_true rfl) dX9_item_44 (fun r_15 u_16 hpo => ?_)
        obtain ⟨rfl, rfl⟩ := hpo
        refine s_st (st' := [.int (if ¬ i0 < 0 ∧ ¬ ((nI d_12) - 1) < i0 then 1 else 0)]) rfl ?_
        refine s_ws (ws' := [(b 0, .inr (9, [.int (nI n), .ref (b 1), .ref (b 2), .int (nI p0), .ref (b 3), .ref (b 4), .ref (b 5), .ref (b 6), .ref (b 7), .ref (b 8), .int (I 10), .ref (b 9), .int (nI t), .int (I 13), .int (I 14), .int (I 15), .long W, .int (I 17), .int (I 18), .int (I 19), .int (I 20), .ref (b 10), .ref (b 11), .ref (b 12), .ref (b 13), .ref (b 14), .ref (b 15), .int (nI q), .int (nI mm), .ref (b 16), .ref (b 17), .ref (b 18), .ref (b 19), .ref (b 20), .ref (b 21), .int (I 35), .int (I 36), .int (I 37), .ref (b 22), .int (nI bd), .int (I 40), .int (I 41), .ref (b 23), .int (I 43), .ref (b 24)])), (b 16, .inl (g 0, 4, .inl a_sorts)), (b 17, .inl (g 0, 4, .inl a_sizes)), (b 18, .inl (g 2, 160, .inr (.inl a_sheets)))]) rfl ?_
        refine s_bif_eq (tgt := 65) B dX9_item_47 rfl (fun h47 => ?_) (fun h47 => ?_)
        · refine s_bipush B dX9_item_65 bp_m12 ?_
          refine s_iret B hQ hr dX9_item_67 rfl ?_
          exact ⟨(by clear hQ B hr hsc; have ec0 : (nI k_3).toNatClampNeg = k_3 := nI_clamp (by omega); have ec1 : (nI k_7).toNatClampNeg = k_7 := nI_clamp (by omega); grind [mItR]), rfl⟩
        · obtain ⟨k_17, hk_18, rfl⟩ := nat_lt1 (N := d_12) h47.1 h47.2 (by omega)
          refine s_aload_n B dX9_item_50 rfl 1 rfl ?_
          refine s_get (T := TX9) B inX9 0 rfl rfl 31 (Nat.le_of_ble_eq_true rfl) fl_X9_65 rfl rfl dX9_item_51 ?_
          refine s_bipush B dX9_item_54 bp_40 ?_
          refine s_iload_n B dX9_item_56 rfl 2 rfl ?_
          refine s_imulE B dX9_item_57 (pk_mul 40 k_3) ?_
          refine s_iload_n B dX9_item_58 rfl 4 rfl ?_
          refine s_iaddE B dX9_item_59 (nI_add (40 * k_3) k_17) ?_
          refine s_laldN B 3 2 rfl rfl dX9_item_60 (by omega) (by decide) ?_
          refine s_l2i B dX9_item_61 rfl ?_
          refine s_goto (tgt := 67) B dX9_item_62 rfl ?_
          refine s_iret B hQ hr dX9_item_67 rfl ?_
          exact ⟨(by clear hQ B hr hsc; have ec0 : (nI k_3).toNatClampNeg = k_3 := nI_clamp (by omega); have ec1 : (nI k_7).toNatClampNeg = k_7 := nI_clamp (by omega); have ec2 : (nI k_17).toNatClampNeg = k_17 := nI_clamp (by omega); grind [mItR]), rfl⟩
      · refine s_iload B dX9_item_31 0 rfl ?_
        refine s_iret B hQ hr dX9_item_33 rfl ?_
        exact ⟨(by clear hQ B hr hsc; have ec0 : (nI k_3).toNatClampNeg = k_3 := nI_clamp (by omega); have ec1 : (nI k_7).toNatClampNeg = k_7 := nI_clamp (by omega); grind [mItR]), rfl⟩
    · refine s_iconst B dX9_item_16 ic_m1 ?_
      refine s_iret B hQ hr dX9_item_17 rfl ?_
      exact ⟨(by clear hQ B hr hsc; have ec0 : (nI k_3).toNatClampNeg = k_3 := nI_clamp (by omega); grind [mItR]), rfl⟩
def rmX9_isHeld : Room := { frames := 2, cells := 0, slots := 0, locals := 43 }
theorem hd_X9_isHeld : yX9_isHeld.cls = RX9 ∧ yX9_isHeld.cls ≠ "java/lang/invoke/MethodHandle" ∧ yX9_isHeld.cls ≠ "java/lang/invoke/VarHandle" ∧ (parseMethodDescriptor yX9_isHeld.desc).map (fun d => d.parameters.length) = some 2 := by decide +kernel
set_option maxHeartbeats 4000000 in
set_option maxRecDepth 100000 in
theorem c_X9_isHeld (l : Launch) (D : va_G) (g : Nat → ClassId) (b : Nat → Nat) (I : Nat → Int32) (W : Int64) (n p0 t q mm bd : Nat)  (w0 : Int32) (n0 : Int32) (hn : n ≤ 8) (hp : p0 = 0 ∨ p0 = 25) (ht : t ≤ 240) (hq0 : q ≤ 20) (hmm : mm ≤ 20) (hbd : bd ≤ 30) : Ci l yX9_isHeld (WW yX9_isHeld cX9_isHeld 3 (some FieldType.boolean)) rmX9_isHeld D vwCl (TY g) [.ref (b 0), .int w0, .int n0] [(b 0, .inr (9, [.int (nI n), .ref (b 1), .ref (b 2), .int (nI p0), .ref (b 3), .ref (b 4), .ref (b 5), .ref (b 6), .ref (b 7), .ref (b 8), .int (I 10), .ref (b 9), .int (nI t), .int (I 13), .int (I 14), .int (I 15), .long W, .int (I 17), .int (I 18), .int (I 19), .int (I 20), .ref (b 10), .ref (b 11), .ref (b 12), .ref (b 13), .ref (b 14), .ref (b 15), .int (nI q), .int (nI mm), .ref (b 16), .ref (b 17), .ref (b 18), .ref (b 19), .ref (b 20), .ref (b 21), .int (I 35), .int (I 36), .int (I 37), .ref (b 22), .int (nI bd), .int (I 40), .int (I 41), .ref (b 23), .int (I 43), .ref (b 24)]))] (fun r u => r = (if (w0 = 0 ∧ ¬ n0 < 0 ∧ ¬ nI n - 1 < n0) ∨ (w0 = 1 ∧ ¬ n0 < 0 ∧ ¬ 3 < n0) ∨ w0 = 2 then 1 else 0) ∧ u = [(b 0, .inr (9, [.int (nI n), .ref (b 1), .ref (b 2), .int (nI p0), .ref (b 3), .ref (b 4), .ref (b 5), .ref (b 6), .ref (b 7), .ref (b 8), .int (I 10), .ref (b 9), .int (nI t), .int (I 13), .int (I 14), .int (I 15), .long W, .int (I 17), .int (I 18), .int (I 19), .int (I 20), .ref (b 10), .ref (b 11), .ref (b 12), .ref (b 13), .ref (b 14), .ref (b 15), .int (nI q), .int (nI mm), .ref (b 16), .ref (b 17), .ref (b 18), .ref (b 19), .ref (b 20), .ref (b 21), .int (I 35), .int (I 36), .int (I 37), .ref (b 22), .int (nI bd), .int (I 40), .int (I 41), .ref (b 23), .int (I 43), .ref (b 24)]))]) := by
  refine ci_in (by decide) (Nat.le_of_ble_eq_true rfl) (a0 := [b 0]) rfl (fun p e s m args below meth c A Q hQ B hr hsc => ?_)
  refine s_iload_n B dX9_isHeld_0 rfl 1 rfl ?_
  refine s_if_ne (tgt := 12) B dX9_isHeld_1 rfl (fun h1 => ?_) (fun h1 => ?_)
  · refine s_iload_n B dX9_isHeld_12 rfl 1 rfl ?_
    refine s_iconst B dX9_isHeld_13 ic_1 ?_
    refine s_icmp_ne (tgt := 24) B dX9_isHeld_14 rfl (fun h14 => ?_) (fun h14 => ?_)
    · refine s_iload_n B dX9_isHeld_24 rfl 1 rfl ?_
      refine s_iconst B dX9_isHeld_25 ic_2 ?_
      refine s_icmp_ne (tgt := 33) B dX9_isHeld_26 rfl (fun h26 => ?_) (fun h26 => ?_)
      · refine s_iconst B dX9_isHeld_33 ic_0 ?_
        refine s_zret B hQ hr dX9_isHeld_34 rfl rfl ?_
        exact ⟨by first | assumption | decide | (intro h9; first | assumption | exact absurd h9 (by decide)) | omega | rfl | (refine ⟨_, ?_, by assumption⟩; omega) | (clear hQ B hr hsc; grind), rfl⟩
      · refine s_iconst B dX9_isHeld_29 ic_1 ?_
        refine s_goto (tgt := 34) B dX9_isHeld_30 rfl ?_
        refine s_zret B hQ hr dX9_isHeld_34 rfl rfl ?_
        exact ⟨by first | assumption | decide | (intro h9; first | assumption | exact absurd h9 (by decide)) | omega | rfl | (refine ⟨_, ?_, by assumption⟩; omega) | (clear hQ B hr hsc; grind), rfl⟩
    · refine s_iload_n B dX9_isHeld_17 rfl 2 rfl ?_
      refine s_callSi B hsc (c_X9_isShelf l D g n0) (gw_S ml_X9_266 sm_yX9_isShelf ini_RX9 co_yX9_isShelf) hd_X9_isShelf rfl rfl ⟨(Nat.le_of_ble_eq_true rfl), (Nat.le_of_ble_eq_true rfl)⟩ [] [0, 1, 2, 3, 4] rfl rfl rfl rfl rfl (Nat.le_of_ble_eq_true rfl) dX9_isHeld_18 (fun r_1 u_2 hpo => ?_)
      obtain ⟨rfl, rfl⟩ := hpo
      refine s_st (st' := [.int (if ¬ n0 < 0 ∧ ¬ 3 < n0 then 1 else 0)]) rfl ?_
      refine s_ws (ws' := [(b 0, .inr (9, [.int (nI n), .ref (b 1), .ref (b 2), .int (nI p0), .ref (b 3), .ref (b 4), .ref (b 5), .ref (b 6), .ref (b 7), .ref (b 8), .int (I 10), .ref (b 9), .int (nI t), .int (I 13), .int (I 14), .int (I 15), .long W, .int (I 17), .int (I 18), .int (I 19), .int (I 20), .ref (b 10), .ref (b 11), .ref (b 12), .ref (b 13), .ref (b 14), .ref (b 15), .int (nI q), .int (nI mm), .ref (b 16), .ref (b 17), .ref (b 18), .ref (b 19), .ref (b 20), .ref (b 21), .int (I 35), .int (I 36), .int (I 37), .ref (b 22), .int (nI bd), .int (I 40), .int (I 41), .ref (b 23), .int (I 43), .ref (b 24)]))]) rfl ?_
      refine s_goto (tgt := 34) B dX9_isHeld_21 rfl ?_
      refine s_zret B hQ hr dX9_isHeld_34 rfl (z_if _) ?_
      exact ⟨by first | assumption | decide | (intro h9; first | assumption | exact absurd h9 (by decide)) | omega | rfl | (refine ⟨_, ?_, by assumption⟩; omega) | (clear hQ B hr hsc; grind), rfl⟩
  · refine s_aload_n B dX9_isHeld_4 rfl 0 rfl ?_
    refine s_iload_n B dX9_isHeld_5 rfl 2 rfl ?_
    refine s_callVi B hsc (c_X9_isChild l D g b (upd (upd (upd (upd I 12 (nI t)) 27 (nI q)) 28 (nI mm)) 39 (nI bd)) W n p0 n0) (gw_V ml_X9_206 im_yX9_isChild se_yX9_isChild ini_RX9 co_yX9_isChild) hd_X9_isChild rfl rfl ⟨(Nat.le_of_ble_eq_true rfl), (Nat.le_of_ble_eq_true rfl)⟩ [0] [0, 1, 2, 3, 4] rfl rfl rfl (ci := 9) (q0 := 0) rfl rfl rfl rfl rfl (Nat.le_of_ble_eq_true rfl) dX9_isHeld_6 (fun r_3 u_4 hpo => ?_)
    obtain ⟨rfl, rfl⟩ := hpo
    refine s_st (st' := [.int (if ¬ n0 < 0 ∧ ¬ nI n - 1 < n0 then 1 else 0)]) rfl ?_
    refine s_ws (ws' := [(b 0, .inr (9, [.int (nI n), .ref (b 1), .ref (b 2), .int (nI p0), .ref (b 3), .ref (b 4), .ref (b 5), .ref (b 6), .ref (b 7), .ref (b 8), .int (I 10), .ref (b 9), .int (nI t), .int (I 13), .int (I 14), .int (I 15), .long W, .int (I 17), .int (I 18), .int (I 19), .int (I 20), .ref (b 10), .ref (b 11), .ref (b 12), .ref (b 13), .ref (b 14), .ref (b 15), .int (nI q), .int (nI mm), .ref (b 16), .ref (b 17), .ref (b 18), .ref (b 19), .ref (b 20), .ref (b 21), .int (I 35), .int (I 36), .int (I 37), .ref (b 22), .int (nI bd), .int (I 40), .int (I 41), .ref (b 23), .int (I 43), .ref (b 24)]))]) rfl ?_
    refine s_goto (tgt := 34) B dX9_isHeld_9 rfl ?_
    refine s_zret B hQ hr dX9_isHeld_34 rfl (z_if _) ?_
    exact ⟨by first | assumption | decide | (intro h9; first | assumption | exact absurd h9 (by decide)) | omega | rfl | (refine ⟨_, ?_, by assumption⟩; omega) | (clear hQ B hr hsc; grind), rfl⟩
def rmX9_shelf : Room := { frames := 3, cells := 0, slots := 0, locals := 65 }
theorem hd_X9_shelf : yX9_shelf.cls = RX9 ∧ yX9_shelf.cls ≠ "java/lang/invoke/MethodHandle" ∧ yX9_shelf.cls ≠ "java/lang/invoke/VarHandle" ∧ (parseMethodDescriptor yX9_shelf.desc).map (fun d => d.parameters.length) = some 3 := by decide +kernel
set_option maxHeartbeats 4000000 in
set_option maxRecDepth 100000 in
theorem c_X9_shelf (l : Launch) (D : va_G) (g : Nat → ClassId) (b : Nat → Nat) (I : Nat → Int32) (W : Int64) (n p0 t q mm bd : Nat) (a_sorts : Nat → Int32) (a_sizes : Nat → Int32) (a_held : Nat → Int32) (a_heldNumber : Nat → Int32) (a_heldSize : Nat → Int32) (s0 : Int32) (w0 : Int32) (n0 : Int32) (hn : n ≤ 8) (hp : p0 = 0 ∨ p0 = 25) (ht : t ≤ 240) (hq0 : q ≤ 20) (hmm : mm ≤ 20) (hbd : bd ≤ 30) (ok_a_sizes : SizOk a_sizes) : Ci l yX9_shelf (WW yX9_shelf cX9_shelf 4 (some FieldType.int)) rmX9_shelf D vwCl (TY g) [.ref (b 0), .int s0, .int w0, .int n0] [(b 0, .inr (9, [.int (nI n), .ref (b 1), .ref (b 2), .int (nI p0), .ref (b 3), .ref (b 4), .ref (b 5), .ref (b 6), .ref (b 7), .ref (b 8), .int (I 10), .ref (b 9), .int (nI t), .int (I 13), .int (I 14), .int (I 15), .long W, .int (I 17), .int (I 18), .int (I 19), .int (I 20), .ref (b 10), .ref (b 11), .ref (b 12), .ref (b 13), .ref (b 14), .ref (b 15), .int (nI q), .int (nI mm), .ref (b 16), .ref (b 17), .ref (b 18), .ref (b 19), .ref (b 20), .ref (b 21), .int (I 35), .int (I 36), .int (I 37), .ref (b 22), .int (nI bd), .int (I 40), .int (I 41), .ref (b 23), .int (I 43), .ref (b 24)])), (b 16, .inl (g 0, 4, .inl a_sorts)), (b 17, .inl (g 0, 4, .inl a_sizes)), (b 19, .inl (g 0, 4, .inl a_held)), (b 20, .inl (g 0, 4, .inl a_heldNumber)), (b 21, .inl (g 0, 4, .inl a_heldSize))] (fun r u => ∃ (a_held' : Nat → Int32) (a_heldNumber' : Nat → Int32) (a_heldSize' : Nat → Int32), (r = mShR s0 w0 n0 n) ∧ (((a_held', a_heldNumber', a_heldSize') : MH) = gShelf r s0 w0 n0 a_sorts a_sizes ((a_held, a_heldNumber, a_heldSize) : MH)) ∧ u = [(b 0, .inr (9, [.int (nI n), .ref (b 1), .ref (b 2), .int (nI p0), .ref (b 3), .ref (b 4), .ref (b 5), .ref (b 6), .ref (b 7), .ref (b 8), .int (I 10), .ref (b 9), .int (nI t), .int (I 13), .int (I 14), .int (I 15), .long W, .int (I 17), .int (I 18), .int (I 19), .int (I 20), .ref (b 10), .ref (b 11), .ref (b 12), .ref (b 13), .ref (b 14), .ref (b 15), .int (nI q), .int (nI mm), .ref (b 16), .ref (b 17), .ref (b 18), .ref (b 19), .ref (b 20), .ref (b 21), .int (I 35), .int (I 36), .int (I 37), .ref (b 22), .int (nI bd), .int (I 40), .int (I 41), .ref (b 23), .int (I 43), .ref (b 24)])), (b 16, .inl (g 0, 4, .inl a_sorts)), (b 17, .inl (g 0, 4, .inl a_sizes)), (b 19, .inl (g 0, 4, .inl a_held')), (b 20, .inl (g 0, 4, .inl a_heldNumber')), (b 21, .inl (g 0, 4, .inl a_heldSize'))]) := by
  refine ci_in (by decide) (Nat.le_of_ble_eq_true rfl) (a0 := [b 0, b 16, b 17, b 19, b 20, b 21]) rfl (fun p e s m args below meth c A Q hQ B hr hsc => ?_)
  refine s_iload_n B dX9_shelf_0 rfl 1 rfl ?_
  refine s_callSi B hsc (c_X9_isShelf l D g s0) (gw_S ml_X9_266 sm_yX9_isShelf ini_RX9 co_yX9_isShelf) hd_X9_isShelf rfl rfl ⟨(Nat.le_of_ble_eq_true rfl), (Nat.le_of_ble_eq_true rfl)⟩ [] [0, 1, 2, 3, 4] rfl rfl rfl rfl rfl (Nat.le_of_ble_eq_true rfl) dX9_shelf_1 (fun r_1 u_2 hpo => ?_)
  obtain ⟨rfl, rfl⟩ := hpo
  refine s_st (st' := [.int (if ¬ s0 < 0 ∧ ¬ 3 < s0 then 1 else 0)]) rfl ?_
  refine s_ws (ws' := [(b 0, .inr (9, [.int (nI n), .ref (b 1), .ref (b 2), .int (nI p0), .ref (b 3), .ref (b 4), .ref (b 5), .ref (b 6), .ref (b 7), .ref (b 8), .int (I 10), .ref (b 9), .int (nI t), .int (I 13), .int (I 14), .int (I 15), .long W, .int (I 17), .int (I 18), .int (I 19), .int (I 20), .ref (b 10), .ref (b 11), .ref (b 12), .ref (b 13), .ref (b 14), .ref (b 15), .int (nI q), .int (nI mm), .ref (b 16), .ref (b 17), .ref (b 18), .ref (b 19), .ref (b 20), .ref (b 21), .int (I 35), .int (I 36), .int (I 37), .ref (b 22), .int (nI bd), .int (I 40), .int (I 41), .ref (b 23), .int (I 43), .ref (b 24)])), (b 16, .inl (g 0, 4, .inl a_sorts)), (b 17, .inl (g 0, 4, .inl a_sizes)), (b 19, .inl (g 0, 4, .inl a_held)), (b 20, .inl (g 0, 4, .inl a_heldNumber)), (b 21, .inl (g 0, 4, .inl a_heldSize))]) rfl ?_
  refine s_bif_eq (tgt := 16) B dX9_shelf_4 rfl (fun h4 => ?_) (fun h4 => ?_)
  · refine s_iconst B dX9_shelf_16 ic_m1 ?_
    refine s_iret B hQ hr dX9_shelf_17 rfl ?_
    exact ⟨a_held, a_heldNumber, a_heldSize, (by clear hQ B hr hsc; grind [mShR]), (by unfold gShelf; rw [if_neg (by decide)]), rfl⟩
  · obtain ⟨k_3, hk_4, rfl⟩ := nat_le (N := 3) h4.1 h4.2 (by decide)
    refine s_aload_n B dX9_shelf_7 rfl 0 rfl ?_
    refine s_iload_n B dX9_shelf_8 rfl 2 rfl ?_
    refine s_iload_n B dX9_shelf_9 rfl 3 rfl ?_
    refine s_callVi B hsc (c_X9_isHeld l D g b I W n p0 t q mm bd w0 n0 (by omega) (by omega) (by omega) (by omega) (by omega) (by omega)) (gw_V ml_X9_274 im_yX9_isHeld se_yX9_isHeld ini_RX9 co_yX9_isHeld) hd_X9_isHeld rfl rfl ⟨(Nat.le_of_ble_eq_true rfl), (Nat.le_of_ble_eq_true rfl)⟩ [0] [0, 1, 2, 3, 4] rfl rfl rfl (ci := 9) (q0 := 0) rfl rfl rfl rfl rfl (Nat.le_of_ble_eq_true rfl) dX9_shelf_10 (fun r_5 u_6 hpo => ?_)
    obtain ⟨rfl, rfl⟩ := hpo
    refine s_st (st' := [.int (if (w0 = 0 ∧ ¬ n0 < 0 ∧ ¬ nI n - 1 < n0) ∨ (w0 = 1 ∧ ¬ n0 < 0 ∧ ¬ 3 < n0) ∨ w0 = 2 then 1 else 0)]) rfl ?_
    refine s_ws (ws' := [(b 0, .inr (9, [.int (nI n), .ref (b 1), .ref (b 2), .int (nI p0), .ref (b 3), .ref (b 4), .ref (b 5), .ref (b 6), .ref (b 7), .ref (b 8), .int (I 10), .ref (b 9), .int (nI t), .int (I 13), .int (I 14), .int (I 15), .long W, .int (I 17), .int (I 18), .int (I 19), .int (I 20), .ref (b 10), .ref (b 11), .ref (b 12), .ref (b 13), .ref (b 14), .ref (b 15), .int (nI q), .int (nI mm), .ref (b 16), .ref (b 17), .ref (b 18), .ref (b 19), .ref (b 20), .ref (b 21), .int (I 35), .int (I 36), .int (I 37), .ref (b 22), .int (nI bd), .int (I 40), .int (I 41), .ref (b 23), .int (I 43), .ref (b 24)])), (b 16, .inl (g 0, 4, .inl a_sorts)), (b 17, .inl (g 0, 4, .inl a_sizes)), (b 19, .inl (g 0, 4, .inl a_held)), (b 20, .inl (g 0, 4, .inl a_heldNumber)), (b 21, .inl (g 0, 4, .inl a_heldSize))]) rfl ?_
    refine s_bif_ne (tgt := 18) B dX9_shelf_13 rfl (fun h13 => ?_) (fun h13 => ?_)
    · refine s_aload_n B dX9_shelf_18 rfl 0 rfl ?_
      refine s_get (T := TX9) B inX9 0 rfl rfl 32 (Nat.le_of_ble_eq_true rfl) fl_X9_69 rfl rfl dX9_shelf_19 ?_
      refine s_iload_n B dX9_shelf_22 rfl 1 rfl ?_
      refine s_iload_n B dX9_shelf_23 rfl 2 rfl ?_
      refine s_iconst B dX9_shelf_24 ic_2 ?_
      refine s_icmp_eq (tgt := 42) B dX9_shelf_25 rfl (fun h25 => ?_) (fun h25 => ?_)
      · refine s_iconst B dX9_shelf_42 ic_m1 ?_
        refine s_goto (tgt := 47) B dX9_shelf_43 rfl ?_
        refine s_iastN (ws' := [_, _, _, _, _, _]) B 3 0 rfl rfl rfl dX9_shelf_47 (by omega) (by decide) ?_
        refine s_aload_n B dX9_shelf_48 rfl 0 rfl ?_
        refine s_get (T := TX9) B inX9 0 rfl rfl 33 (Nat.le_of_ble_eq_true rfl) fl_X9_72 rfl rfl dX9_shelf_49 ?_
        refine s_iload_n B dX9_shelf_52 rfl 1 rfl ?_
        refine s_iload_n B dX9_shelf_53 rfl 2 rfl ?_
        refine s_iconst B dX9_shelf_54 ic_1 ?_
        refine s_icmp_ne (tgt := 67) B dX9_shelf_55 rfl (fun h55 => ?_) (fun h55 => ?_)
        · refine s_iload_n B dX9_shelf_67 rfl 3 rfl ?_
          refine s_iastN (ws' := [_, _, _, _, _, _]) B 4 0 rfl rfl rfl dX9_shelf_68 (by omega) (by decide) ?_
          refine s_aload_n B dX9_shelf_69 rfl 0 rfl ?_
          refine s_get (T := TX9) B inX9 0 rfl rfl 34 (Nat.le_of_ble_eq_true rfl) fl_X9_75 rfl rfl dX9_shelf_70 ?_
          refine s_iload_n B dX9_shelf_73 rfl 1 rfl ?_
          refine s_iload_n B dX9_shelf_74 rfl 2 rfl ?_
          refine s_iconst B dX9_shelf_75 ic_1 ?_
          refine s_icmp_ne (tgt := 88) B dX9_shelf_76 rfl (fun h76 => ?_) (fun h76 => ?_)
          · refine s_iconst B dX9_shelf_88 ic_0 ?_
            refine s_iastN (ws' := [_, _, _, _, _, _]) B 5 0 rfl rfl rfl dX9_shelf_89 (by omega) (by decide) ?_
            refine s_iconst B dX9_shelf_90 ic_1 ?_
            refine s_iret B hQ hr dX9_shelf_91 rfl ?_
            exact ⟨(upd a_held k_3 (-1)), (upd a_heldNumber k_3 n0), (upd a_heldSize k_3 0), (by clear hQ B hr hsc; grind [mShR]), (by clear hQ B hr hsc; have ec0 : (nI k_3).toNatClampNeg = k_3 := nI_clamp (by omega); grind [gShelf]), rfl⟩
          · obtain ⟨k_7, hk_8, rfl⟩ : ∃ k : Nat, k ≤ 3 ∧ n0 = nI k := nat_le (N := 3) (by clear hQ B hr hsc; grind) (show ¬ (3 : Int32) < n0 from (by clear hQ B hr hsc; grind)) (by first | decide | omega)
            refine s_aload_n B dX9_shelf_79 rfl 0 rfl ?_
            refine s_get (T := TX9) B inX9 0 rfl rfl 30 (Nat.le_of_ble_eq_true rfl) fl_X9_62 rfl rfl dX9_shelf_80 ?_
            refine s_iload_n B dX9_shelf_83 rfl 3 rfl ?_
            refine s_ialdN B 2 0 rfl rfl dX9_shelf_84 (by omega) (by decide) ?_
            obtain ⟨d_9, hd_10, hr__11⟩ : le40 (a_sizes k_7) := ok_a_sizes k_7 (by omega)
            refine s_st (st' := [.int (nI d_9), .int (nI k_3), .ref (b 21)]) (by rw [hr__11]) ?_
            refine s_goto (tgt := 89) B dX9_shelf_85 rfl ?_
            refine s_iastN (ws' := [_, _, _, _, _, _]) B 5 0 rfl rfl rfl dX9_shelf_89 (by omega) (by decide) ?_
            refine s_iconst B dX9_shelf_90 ic_1 ?_
            refine s_iret B hQ hr dX9_shelf_91 rfl ?_
            exact ⟨(upd a_held k_3 (-1)), (upd a_heldNumber k_3 (nI k_7)), (upd a_heldSize k_3 (nI d_9)), (by clear hQ B hr hsc; grind [mShR]), (by clear hQ B hr hsc; have ec0 : (nI k_3).toNatClampNeg = k_3 := nI_clamp (by omega); have ec1 : (nI k_7).toNatClampNeg = k_7 := nI_clamp (by omega); grind [gShelf]), rfl⟩
        · obtain ⟨k_12, hk_13, rfl⟩ : ∃ k : Nat, k ≤ 3 ∧ n0 = nI k := nat_le (N := 3) (by clear hQ B hr hsc; grind) (show ¬ (3 : Int32) < n0 from (by clear hQ B hr hsc; grind)) (by first | decide | omega)
          refine s_aload_n B dX9_shelf_58 rfl 0 rfl ?_
          refine s_get (T := TX9) B inX9 0 rfl rfl 29 (Nat.le_of_ble_eq_true rfl) fl_X9_59 rfl rfl dX9_shelf_59 ?_
          refine s_iload_n B dX9_shelf_62 rfl 3 rfl ?_
          refine s_ialdN B 1 0 rfl rfl dX9_shelf_63 (by omega) (by decide) ?_
          refine s_goto (tgt := 68) B dX9_shelf_64 rfl ?_
          refine s_iastN (ws' := [_, _, _, _, _, _]) B 4 0 rfl rfl rfl dX9_shelf_68 (by omega) (by decide) ?_
          refine s_aload_n B dX9_shelf_69 rfl 0 rfl ?_
          refine s_get (T := TX9) B inX9 0 rfl rfl 34 (Nat.le_of_ble_eq_true rfl) fl_X9_75 rfl rfl dX9_shelf_70 ?_
          refine s_iload_n B dX9_shelf_73 rfl 1 rfl ?_
          refine s_iload_n B dX9_shelf_74 rfl 2 rfl ?_
          refine s_iconst B dX9_shelf_75 ic_1 ?_
          refine s_icmp_ne (tgt := 88) B dX9_shelf_76 rfl (fun h76 => ?_) (fun h76 => ?_)
          · refine s_iconst B dX9_shelf_88 ic_0 ?_
            refine s_iastN (ws' := [_, _, _, _, _, _]) B 5 0 rfl rfl rfl dX9_shelf_89 (by omega) (by decide) ?_
            refine s_iconst B dX9_shelf_90 ic_1 ?_
            refine s_iret B hQ hr dX9_shelf_91 rfl ?_
            exact ⟨(upd a_held k_3 (-1)), (upd a_heldNumber k_3 (a_sorts k_12)), (upd a_heldSize k_3 0), (by clear hQ B hr hsc; grind [mShR]), (by clear hQ B hr hsc; have ec0 : (nI k_3).toNatClampNeg = k_3 := nI_clamp (by omega); have ec1 : (nI k_12).toNatClampNeg = k_12 := nI_clamp (by omega); grind [gShelf]), rfl⟩
          · refine s_aload_n B dX9_shelf_79 rfl 0 rfl ?_
            refine s_get (T := TX9) B inX9 0 rfl rfl 30 (Nat.le_of_ble_eq_true rfl) fl_X9_62 rfl rfl dX9_shelf_80 ?_
            refine s_iload_n B dX9_shelf_83 rfl 3 rfl ?_
            refine s_ialdN B 2 0 rfl rfl dX9_shelf_84 (by omega) (by decide) ?_
            obtain ⟨d_14, hd_15, hr__16⟩ : le40 (a_sizes k_12) := ok_a_sizes k_12 (by omega)
            refine s_st (st' := [.int (nI d_14), .int (nI k_3), .ref (b 21)]) (by rw [hr__16]) ?_
            refine s_goto (tgt := 89) B dX9_shelf_85 rfl ?_
            refine s_iastN (ws' := [_, _, _, _, _, _]) B 5 0 rfl rfl rfl dX9_shelf_89 (by omega) (by decide) ?_
            refine s_iconst B dX9_shelf_90 ic_1 ?_
            refine s_iret B hQ hr dX9_shelf_91 rfl ?_
            exact ⟨(upd a_held k_3 (-1)), (upd a_heldNumber k_3 (a_sorts k_12)), (upd a_heldSize k_3 (nI d_14)), (by clear hQ B hr hsc; grind [mShR]), (by clear hQ B hr hsc; have ec0 : (nI k_3).toNatClampNeg = k_3 := nI_clamp (by omega); have ec1 : (nI k_12).toNatClampNeg = k_12 := nI_clamp (by omega); grind [gShelf]), rfl⟩
      · refine s_iload_n B dX9_shelf_28 rfl 2 rfl ?_
        refine s_iconst B dX9_shelf_29 ic_1 ?_
        refine s_icmp_ne (tgt := 46) B dX9_shelf_30 rfl (fun h30 => ?_) (fun h30 => ?_)
        · refine s_iload_n B dX9_shelf_46 rfl 2 rfl ?_
          refine s_iastN (ws' := [_, _, _, _, _, _]) B 3 0 rfl rfl rfl dX9_shelf_47 (by omega) (by decide) ?_
          refine s_aload_n B dX9_shelf_48 rfl 0 rfl ?_
          refine s_get (T := TX9) B inX9 0 rfl rfl 33 (Nat.le_of_ble_eq_true rfl) fl_X9_72 rfl rfl dX9_shelf_49 ?_
          refine s_iload_n B dX9_shelf_52 rfl 1 rfl ?_
          refine s_iload_n B dX9_shelf_53 rfl 2 rfl ?_
          refine s_iconst B dX9_shelf_54 ic_1 ?_
          refine s_icmp_ne (tgt := 67) B dX9_shelf_55 rfl (fun h55 => ?_) (fun h55 => ?_)
          · refine s_iload_n B dX9_shelf_67 rfl 3 rfl ?_
            refine s_iastN (ws' := [_, _, _, _, _, _]) B 4 0 rfl rfl rfl dX9_shelf_68 (by omega) (by decide) ?_
            refine s_aload_n B dX9_shelf_69 rfl 0 rfl ?_
            refine s_get (T := TX9) B inX9 0 rfl rfl 34 (Nat.le_of_ble_eq_true rfl) fl_X9_75 rfl rfl dX9_shelf_70 ?_
            refine s_iload_n B dX9_shelf_73 rfl 1 rfl ?_
            refine s_iload_n B dX9_shelf_74 rfl 2 rfl ?_
            refine s_iconst B dX9_shelf_75 ic_1 ?_
            refine s_icmp_ne (tgt := 88) B dX9_shelf_76 rfl (fun h76 => ?_) (fun h76 => ?_)
            · refine s_iconst B dX9_shelf_88 ic_0 ?_
              refine s_iastN (ws' := [_, _, _, _, _, _]) B 5 0 rfl rfl rfl dX9_shelf_89 (by omega) (by decide) ?_
              refine s_iconst B dX9_shelf_90 ic_1 ?_
              refine s_iret B hQ hr dX9_shelf_91 rfl ?_
              exact ⟨(upd a_held k_3 w0), (upd a_heldNumber k_3 n0), (upd a_heldSize k_3 0), (by clear hQ B hr hsc; grind [mShR]), (by clear hQ B hr hsc; have ec0 : (nI k_3).toNatClampNeg = k_3 := nI_clamp (by omega); grind [gShelf]), rfl⟩
            · obtain ⟨k_17, hk_18, rfl⟩ : ∃ k : Nat, k ≤ 3 ∧ n0 = nI k := nat_le (N := 3) (by clear hQ B hr hsc; grind) (show ¬ (3 : Int32) < n0 from (by clear hQ B hr hsc; grind)) (by first | decide | omega)
              refine s_aload_n B dX9_shelf_79 rfl 0 rfl ?_
              refine s_get (T := TX9) B inX9 0 rfl rfl 30 (Nat.le_of_ble_eq_true rfl) fl_X9_62 rfl rfl dX9_shelf_80 ?_
              refine s_iload_n B dX9_shelf_83 rfl 3 rfl ?_
              refine s_ialdN B 2 0 rfl rfl dX9_shelf_84 (by omega) (by decide) ?_
              obtain ⟨d_19, hd_20, hr__21⟩ : le40 (a_sizes k_17) := ok_a_sizes k_17 (by omega)
              refine s_st (st' := [.int (nI d_19), .int (nI k_3), .ref (b 21)]) (by rw [hr__21]) ?_
              refine s_goto (tgt := 89) B dX9_shelf_85 rfl ?_
              refine s_iastN (ws' := [_, _, _, _, _, _]) B 5 0 rfl rfl rfl dX9_shelf_89 (by omega) (by decide) ?_
              refine s_iconst B dX9_shelf_90 ic_1 ?_
              refine s_iret B hQ hr dX9_shelf_91 rfl ?_
              exact ⟨(upd a_held k_3 w0), (upd a_heldNumber k_3 (nI k_17)), (upd a_heldSize k_3 (nI d_19)), (by clear hQ B hr hsc; grind [mShR]), (by clear hQ B hr hsc; have ec0 : (nI k_3).toNatClampNeg = k_3 := nI_clamp (by omega); have ec1 : (nI k_17).toNatClampNeg = k_17 := nI_clamp (by omega); grind [gShelf]), rfl⟩
          · obtain ⟨k_22, hk_23, rfl⟩ : ∃ k : Nat, k ≤ 3 ∧ n0 = nI k := nat_le (N := 3) (by clear hQ B hr hsc; grind) (show ¬ (3 : Int32) < n0 from (by clear hQ B hr hsc; grind)) (by first | decide | omega)
            refine s_aload_n B dX9_shelf_58 rfl 0 rfl ?_
            refine s_get (T := TX9) B inX9 0 rfl rfl 29 (Nat.le_of_ble_eq_true rfl) fl_X9_59 rfl rfl dX9_shelf_59 ?_
            refine s_iload_n B dX9_shelf_62 rfl 3 rfl ?_
            refine s_ialdN B 1 0 rfl rfl dX9_shelf_63 (by omega) (by decide) ?_
            refine s_goto (tgt := 68) B dX9_shelf_64 rfl ?_
            refine s_iastN (ws' := [_, _, _, _, _, _]) B 4 0 rfl rfl rfl dX9_shelf_68 (by omega) (by decide) ?_
            refine s_aload_n B dX9_shelf_69 rfl 0 rfl ?_
            refine s_get (T := TX9) B inX9 0 rfl rfl 34 (Nat.le_of_ble_eq_true rfl) fl_X9_75 rfl rfl dX9_shelf_70 ?_
            refine s_iload_n B dX9_shelf_73 rfl 1 rfl ?_
            refine s_iload_n B dX9_shelf_74 rfl 2 rfl ?_
            refine s_iconst B dX9_shelf_75 ic_1 ?_
            refine s_icmp_ne (tgt := 88) B dX9_shelf_76 rfl (fun h76 => ?_) (fun h76 => ?_)
            · refine s_iconst B dX9_shelf_88 ic_0 ?_
              refine s_iastN (ws' := [_, _, _, _, _, _]) B 5 0 rfl rfl rfl dX9_shelf_89 (by omega) (by decide) ?_
              refine s_iconst B dX9_shelf_90 ic_1 ?_
              refine s_iret B hQ hr dX9_shelf_91 rfl ?_
              exact ⟨(upd a_held k_3 w0), (upd a_heldNumber k_3 (a_sorts k_22)), (upd a_heldSize k_3 0), (by clear hQ B hr hsc; grind [mShR]), (by clear hQ B hr hsc; have ec0 : (nI k_3).toNatClampNeg = k_3 := nI_clamp (by omega); have ec1 : (nI k_22).toNatClampNeg = k_22 := nI_clamp (by omega); grind [gShelf]), rfl⟩
            · refine s_aload_n B dX9_shelf_79 rfl 0 rfl ?_
              refine s_get (T := TX9) B inX9 0 rfl rfl 30 (Nat.le_of_ble_eq_true rfl) fl_X9_62 rfl rfl dX9_shelf_80 ?_
              refine s_iload_n B dX9_shelf_83 rfl 3 rfl ?_
              refine s_ialdN B 2 0 rfl rfl dX9_shelf_84 (by omega) (by decide) ?_
              obtain ⟨d_24, hd_25, hr__26⟩ : le40 (a_sizes k_22) := ok_a_sizes k_22 (by omega)
              refine s_st (st' := [.int (nI d_24), .int (nI k_3), .ref (b 21)]) (by rw [hr__26]) ?_
              refine s_goto (tgt := 89) B dX9_shelf_85 rfl ?_
              refine s_iastN (ws' := [_, _, _, _, _, _]) B 5 0 rfl rfl rfl dX9_shelf_89 (by omega) (by decide) ?_
              refine s_iconst B dX9_shelf_90 ic_1 ?_
              refine s_iret B hQ hr dX9_shelf_91 rfl ?_
              exact ⟨(upd a_held k_3 w0), (upd a_heldNumber k_3 (a_sorts k_22)), (upd a_heldSize k_3 (nI d_24)), (by clear hQ B hr hsc; grind [mShR]), (by clear hQ B hr hsc; have ec0 : (nI k_3).toNatClampNeg = k_3 := nI_clamp (by omega); have ec1 : (nI k_22).toNatClampNeg = k_22 := nI_clamp (by omega); grind [gShelf]), rfl⟩
        · obtain ⟨k_27, hk_28, rfl⟩ : ∃ k : Nat, k ≤ 3 ∧ n0 = nI k := nat_le (N := 3) (by clear hQ B hr hsc; grind) (show ¬ (3 : Int32) < n0 from (by clear hQ B hr hsc; grind)) (by first | decide | omega)
          refine s_aload_n B dX9_shelf_33 rfl 0 rfl ?_
          refine s_get (T := TX9) B inX9 0 rfl rfl 29 (Nat.le_of_ble_eq_true rfl) fl_X9_59 rfl rfl dX9_shelf_34 ?_
          refine s_iload_n B dX9_shelf_37 rfl 3 rfl ?_
          refine s_ialdN B 1 0 rfl rfl dX9_shelf_38 (by omega) (by decide) ?_
          refine s_if_ge (tgt := 46) B dX9_shelf_39 rfl (fun h39 => ?_) (fun h39 => ?_)
          · refine s_iload_n B dX9_shelf_46 rfl 2 rfl ?_
            refine s_iastN (ws' := [_, _, _, _, _, _]) B 3 0 rfl rfl rfl dX9_shelf_47 (by omega) (by decide) ?_
            refine s_aload_n B dX9_shelf_48 rfl 0 rfl ?_
            refine s_get (T := TX9) B inX9 0 rfl rfl 33 (Nat.le_of_ble_eq_true rfl) fl_X9_72 rfl rfl dX9_shelf_49 ?_
            refine s_iload_n B dX9_shelf_52 rfl 1 rfl ?_
            refine s_iload_n B dX9_shelf_53 rfl 2 rfl ?_
            refine s_iconst B dX9_shelf_54 ic_1 ?_
            refine s_icmp_ne (tgt := 67) B dX9_shelf_55 rfl (fun h55 => ?_) (fun h55 => ?_)
            · refine s_iload_n B dX9_shelf_67 rfl 3 rfl ?_
              refine s_iastN (ws' := [_, _, _, _, _, _]) B 4 0 rfl rfl rfl dX9_shelf_68 (by omega) (by decide) ?_
              refine s_aload_n B dX9_shelf_69 rfl 0 rfl ?_
              refine s_get (T := TX9) B inX9 0 rfl rfl 34 (Nat.le_of_ble_eq_true rfl) fl_X9_75 rfl rfl dX9_shelf_70 ?_
              refine s_iload_n B dX9_shelf_73 rfl 1 rfl ?_
              refine s_iload_n B dX9_shelf_74 rfl 2 rfl ?_
              refine s_iconst B dX9_shelf_75 ic_1 ?_
              refine s_icmp_ne (tgt := 88) B dX9_shelf_76 rfl (fun h76 => ?_) (fun h76 => ?_)
              · refine s_iconst B dX9_shelf_88 ic_0 ?_
                refine s_iastN (ws' := [_, _, _, _, _, _]) B 5 0 rfl rfl rfl dX9_shelf_89 (by omega) (by decide) ?_
                refine s_iconst B dX9_shelf_90 ic_1 ?_
                refine s_iret B hQ hr dX9_shelf_91 rfl ?_
                exact ⟨(upd a_held k_3 w0), (upd a_heldNumber k_3 (nI k_27)), (upd a_heldSize k_3 0), (by clear hQ B hr hsc; grind [mShR]), (by clear hQ B hr hsc; have ec0 : (nI k_3).toNatClampNeg = k_3 := nI_clamp (by omega); have ec1 : (nI k_27).toNatClampNeg = k_27 := nI_clamp (by omega); grind [gShelf]), rfl⟩
              · refine s_aload_n B dX9_shelf_79 rfl 0 rfl ?_
                refine s_get (T := TX9) B inX9 0 rfl rfl 30 (Nat.le_of_ble_eq_true rfl) fl_X9_62 rfl rfl dX9_shelf_80 ?_
                refine s_iload_n B dX9_shelf_83 rfl 3 rfl ?_
                refine s_ialdN B 2 0 rfl rfl dX9_shelf_84 (by omega) (by decide) ?_
                obtain ⟨d_29, hd_30, hr__31⟩ : le40 (a_sizes k_27) := ok_a_sizes k_27 (by omega)
                refine s_st (st' := [.int (nI d_29), .int (nI k_3), .ref (b 21)]) (by rw [hr__31]) ?_
                refine s_goto (tgt := 89) B dX9_shelf_85 rfl ?_
                refine s_iastN (ws' := [_, _, _, _, _, _]) B 5 0 rfl rfl rfl dX9_shelf_89 (by omega) (by decide) ?_
                refine s_iconst B dX9_shelf_90 ic_1 ?_
                refine s_iret B hQ hr dX9_shelf_91 rfl ?_
                exact ⟨(upd a_held k_3 w0), (upd a_heldNumber k_3 (nI k_27)), (upd a_heldSize k_3 (nI d_29)), (by clear hQ B hr hsc; grind [mShR]), (by clear hQ B hr hsc; have ec0 : (nI k_3).toNatClampNeg = k_3 := nI_clamp (by omega); have ec1 : (nI k_27).toNatClampNeg = k_27 := nI_clamp (by omega); grind [gShelf]), rfl⟩
            · refine s_aload_n B dX9_shelf_58 rfl 0 rfl ?_
              refine s_get (T := TX9) B inX9 0 rfl rfl 29 (Nat.le_of_ble_eq_true rfl) fl_X9_59 rfl rfl dX9_shelf_59 ?_
              refine s_iload_n B dX9_shelf_62 rfl 3 rfl ?_
              refine s_ialdN B 1 0 rfl rfl dX9_shelf_63 (by omega) (by decide) ?_
              refine s_goto (tgt := 68) B dX9_shelf_64 rfl ?_
              refine s_iastN (ws' := [_, _, _, _, _, _]) B 4 0 rfl rfl rfl dX9_shelf_68 (by omega) (by decide) ?_
              refine s_aload_n B dX9_shelf_69 rfl 0 rfl ?_
              refine s_get (T := TX9) B inX9 0 rfl rfl 34 (Nat.le_of_ble_eq_true rfl) fl_X9_75 rfl rfl dX9_shelf_70 ?_
              refine s_iload_n B dX9_shelf_73 rfl 1 rfl ?_
              refine s_iload_n B dX9_shelf_74 rfl 2 rfl ?_
              refine s_iconst B dX9_shelf_75 ic_1 ?_
              refine s_icmp_ne (tgt := 88) B dX9_shelf_76 rfl (fun h76 => ?_) (fun h76 => ?_)
              · refine s_iconst B dX9_shelf_88 ic_0 ?_
                refine s_iastN (ws' := [_, _, _, _, _, _]) B 5 0 rfl rfl rfl dX9_shelf_89 (by omega) (by decide) ?_
                refine s_iconst B dX9_shelf_90 ic_1 ?_
                refine s_iret B hQ hr dX9_shelf_91 rfl ?_
                exact ⟨(upd a_held k_3 w0), (upd a_heldNumber k_3 (a_sorts k_27)), (upd a_heldSize k_3 0), (by clear hQ B hr hsc; grind [mShR]), (by clear hQ B hr hsc; have ec0 : (nI k_3).toNatClampNeg = k_3 := nI_clamp (by omega); have ec1 : (nI k_27).toNatClampNeg = k_27 := nI_clamp (by omega); grind [gShelf]), rfl⟩
              · refine s_aload_n B dX9_shelf_79 rfl 0 rfl ?_
                refine s_get (T := TX9) B inX9 0 rfl rfl 30 (Nat.le_of_ble_eq_true rfl) fl_X9_62 rfl rfl dX9_shelf_80 ?_
                refine s_iload_n B dX9_shelf_83 rfl 3 rfl ?_
                refine s_ialdN B 2 0 rfl rfl dX9_shelf_84 (by omega) (by decide) ?_
                obtain ⟨d_32, hd_33, hr__34⟩ : le40 (a_sizes k_27) := ok_a_sizes k_27 (by omega)
                refine s_st (st' := [.int (nI d_32), .int (nI k_3), .ref (b 21)]) (by rw [hr__34]) ?_
                refine s_goto (tgt := 89) B dX9_shelf_85 rfl ?_
                refine s_iastN (ws' := [_, _, _, _, _, _]) B 5 0 rfl rfl rfl dX9_shelf_89 (by omega) (by decide) ?_
                refine s_iconst B dX9_shelf_90 ic_1 ?_
                refine s_iret B hQ hr dX9_shelf_91 rfl ?_
                exact ⟨(upd a_held k_3 w0), (upd a_heldNumber k_3 (a_sorts k_27)), (upd a_heldSize k_3 (nI d_32)), (by clear hQ B hr hsc; grind [mShR]), (by clear hQ B hr hsc; have ec0 : (nI k_3).toNatClampNeg = k_3 := nI_clamp (by omega); have ec1 : (nI k_27).toNatClampNeg = k_27 := nI_clamp (by omega); grind [gShelf]), rfl⟩
          · refine s_iconst B dX9_shelf_42 ic_m1 ?_
            refine s_goto (tgt := 47) B dX9_shelf_43 rfl ?_
            refine s_iastN (ws' := [_, _, _, _, _, _]) B 3 0 rfl rfl rfl dX9_shelf_47 (by omega) (by decide) ?_
            refine s_aload_n B dX9_shelf_48 rfl 0 rfl ?_
            refine s_get (T := TX9) B inX9 0 rfl rfl 33 (Nat.le_of_ble_eq_true rfl) fl_X9_72 rfl rfl dX9_shelf_49 ?_
            refine s_iload_n B dX9_shelf_52 rfl 1 rfl ?_
            refine s_iload_n B dX9_shelf_53 rfl 2 rfl ?_
            refine s_iconst B dX9_shelf_54 ic_1 ?_
            refine s_icmp_ne (tgt := 67) B dX9_shelf_55 rfl (fun h55 => ?_) (fun h55 => ?_)
            · refine s_iload_n B dX9_shelf_67 rfl 3 rfl ?_
              refine s_iastN (ws' := [_, _, _, _, _, _]) B 4 0 rfl rfl rfl dX9_shelf_68 (by omega) (by decide) ?_
              refine s_aload_n B dX9_shelf_69 rfl 0 rfl ?_
              refine s_get (T := TX9) B inX9 0 rfl rfl 34 (Nat.le_of_ble_eq_true rfl) fl_X9_75 rfl rfl dX9_shelf_70 ?_
              refine s_iload_n B dX9_shelf_73 rfl 1 rfl ?_
              refine s_iload_n B dX9_shelf_74 rfl 2 rfl ?_
              refine s_iconst B dX9_shelf_75 ic_1 ?_
              refine s_icmp_ne (tgt := 88) B dX9_shelf_76 rfl (fun h76 => ?_) (fun h76 => ?_)
              · refine s_iconst B dX9_shelf_88 ic_0 ?_
                refine s_iastN (ws' := [_, _, _, _, _, _]) B 5 0 rfl rfl rfl dX9_shelf_89 (by omega) (by decide) ?_
                refine s_iconst B dX9_shelf_90 ic_1 ?_
                refine s_iret B hQ hr dX9_shelf_91 rfl ?_
                exact ⟨(upd a_held k_3 (-1)), (upd a_heldNumber k_3 (nI k_27)), (upd a_heldSize k_3 0), (by clear hQ B hr hsc; grind [mShR]), (by clear hQ B hr hsc; have ec0 : (nI k_3).toNatClampNeg = k_3 := nI_clamp (by omega); have ec1 : (nI k_27).toNatClampNeg = k_27 := nI_clamp (by omega); grind [gShelf]), rfl⟩
              · refine s_aload_n B dX9_shelf_79 rfl 0 rfl ?_
                refine s_get (T := TX9) B inX9 0 rfl rfl 30 (Nat.le_of_ble_eq_true rfl) fl_X9_62 rfl rfl dX9_shelf_80 ?_
                refine s_iload_n B dX9_shelf_83 rfl 3 rfl ?_
                refine s_ialdN B 2 0 rfl rfl dX9_shelf_84 (by omega) (by decide) ?_
                obtain ⟨d_35, hd_36, hr__37⟩ : le40 (a_sizes k_27) := ok_a_sizes k_27 (by omega)
                refine s_st (st' := [.int (nI d_35), .int (nI k_3), .ref (b 21)]) (by rw [hr__37]) ?_
                refine s_goto (tgt := 89) B dX9_shelf_85 rfl ?_
                refine s_iastN (ws' := [_, _, _, _, _, _]) B 5 0 rfl rfl rfl dX9_shelf_89 (by omega) (by decide) ?_
                refine s_iconst B dX9_shelf_90 ic_1 ?_
                refine s_iret B hQ hr dX9_shelf_91 rfl ?_
                exact ⟨(upd a_held k_3 (-1)), (upd a_heldNumber k_3 (nI k_27)), (upd a_heldSize k_3 (nI d_35)), (by clear hQ B hr hsc; grind [mShR]), (by clear hQ B hr hsc; have ec0 : (nI k_3).toNatClampNeg = k_3 := nI_clamp (by omega); have ec1 : (nI k_27).toNatClampNeg = k_27 := nI_clamp (by omega); grind [gShelf]), rfl⟩
            · refine s_aload_n B dX9_shelf_58 rfl 0 rfl ?_
              refine s_get (T := TX9) B inX9 0 rfl rfl 29 (Nat.le_of_ble_eq_true rfl) fl_X9_59 rfl rfl dX9_shelf_59 ?_
              refine s_iload_n B dX9_shelf_62 rfl 3 rfl ?_
              refine s_ialdN B 1 0 rfl rfl dX9_shelf_63 (by omega) (by decide) ?_
              refine s_goto (tgt := 68) B dX9_shelf_64 rfl ?_
              refine s_iastN (ws' := [_, _, _, _, _, _]) B 4 0 rfl rfl rfl dX9_shelf_68 (by omega) (by decide) ?_
              refine s_aload_n B dX9_shelf_69 rfl 0 rfl ?_
              refine s_get (T := TX9) B inX9 0 rfl rfl 34 (Nat.le_of_ble_eq_true rfl) fl_X9_75 rfl rfl dX9_shelf_70 ?_
              refine s_iload_n B dX9_shelf_73 rfl 1 rfl ?_
              refine s_iload_n B dX9_shelf_74 rfl 2 rfl ?_
              refine s_iconst B dX9_shelf_75 ic_1 ?_
              refine s_icmp_ne (tgt := 88) B dX9_shelf_76 rfl (fun h76 => ?_) (fun h76 => ?_)
              · refine s_iconst B dX9_shelf_88 ic_0 ?_
                refine s_iastN (ws' := [_, _, _, _, _, _]) B 5 0 rfl rfl rfl dX9_shelf_89 (by omega) (by decide) ?_
                refine s_iconst B dX9_shelf_90 ic_1 ?_
                refine s_iret B hQ hr dX9_shelf_91 rfl ?_
                exact ⟨(upd a_held k_3 (-1)), (upd a_heldNumber k_3 (a_sorts k_27)), (upd a_heldSize k_3 0), (by clear hQ B hr hsc; grind [mShR]), (by clear hQ B hr hsc; have ec0 : (nI k_3).toNatClampNeg = k_3 := nI_clamp (by omega); have ec1 : (nI k_27).toNatClampNeg = k_27 := nI_clamp (by omega); grind [gShelf]), rfl⟩
              · refine s_aload_n B dX9_shelf_79 rfl 0 rfl ?_
                refine s_get (T := TX9) B inX9 0 rfl rfl 30 (Nat.le_of_ble_eq_true rfl) fl_X9_62 rfl rfl dX9_shelf_80 ?_
                refine s_iload_n B dX9_shelf_83 rfl 3 rfl ?_
                refine s_ialdN B 2 0 rfl rfl dX9_shelf_84 (by omega) (by decide) ?_
                obtain ⟨d_38, hd_39, hr__40⟩ : le40 (a_sizes k_27) := ok_a_sizes k_27 (by omega)
                refine s_st (st' := [.int (nI d_38), .int (nI k_3), .ref (b 21)]) (by rw [hr__40]) ?_
                refine s_goto (tgt := 89) B dX9_shelf_85 rfl ?_
                refine s_iastN (ws' := [_, _, _, _, _, _]) B 5 0 rfl rfl rfl dX9_shelf_89 (by omega) (by decide) ?_
                refine s_iconst B dX9_shelf_90 ic_1 ?_
                refine s_iret B hQ hr dX9_shelf_91 rfl ?_
                exact ⟨(upd a_held k_3 (-1)), (upd a_heldNumber k_3 (a_sorts k_27)), (upd a_heldSize k_3 (nI d_38)), (by clear hQ B hr hsc; grind [mShR]), (by clear hQ B hr hsc; have ec0 : (nI k_3).toNatClampNeg = k_3 := nI_clamp (by omega); have ec1 : (nI k_27).toNatClampNeg = k_27 := nI_clamp (by omega); grind [gShelf]), rfl⟩
    · refine s_iconst B dX9_shelf_16 ic_m1 ?_
      refine s_iret B hQ hr dX9_shelf_17 rfl ?_
      exact ⟨a_held, a_heldNumber, a_heldSize, (by clear hQ B hr hsc; grind [mShR]), (by unfold gShelf; rw [if_neg (by decide)]), rfl⟩
def rmX9_kindOn : Room := { frames := 2, cells := 0, slots := 0, locals := 43 }
theorem hd_X9_kindOn : yX9_kindOn.cls = RX9 ∧ yX9_kindOn.cls ≠ "java/lang/invoke/MethodHandle" ∧ yX9_kindOn.cls ≠ "java/lang/invoke/VarHandle" ∧ (parseMethodDescriptor yX9_kindOn.desc).map (fun d => d.parameters.length) = some 1 := by decide +kernel
set_option maxHeartbeats 4000000 in
set_option maxRecDepth 100000 in
theorem c_X9_kindOn (l : Launch) (D : va_G) (g : Nat → ClassId) (b : Nat → Nat) (I : Nat → Int32) (W : Int64) (n p0 t q mm bd : Nat) (a_child : Nat → Int32) (a_held : Nat → Int32) (a_heldNumber : Nat → Int32) (s1 : Nat) (hn : n ≤ 8) (hp : p0 = 0 ∨ p0 = 25) (ht : t ≤ 240) (hq0 : q ≤ 20) (hmm : mm ≤ 20) (hbd : bd ≤ 30) (hpre0 : s1 < 4) : Ci l yX9_kindOn (WW yX9_kindOn cX9_kindOn 2 (some FieldType.int)) rmX9_kindOn D vwCl (TY g) [.ref (b 0), .int (nI s1)] [(b 0, .inr (9, [.int (nI n), .ref (b 1), .ref (b 2), .int (nI p0), .ref (b 3), .ref (b 4), .ref (b 5), .ref (b 6), .ref (b 7), .ref (b 8), .int (I 10), .ref (b 9), .int (nI t), .int (I 13), .int (I 14), .int (I 15), .long W, .int (I 17), .int (I 18), .int (I 19), .int (I 20), .ref (b 10), .ref (b 11), .ref (b 12), .ref (b 13), .ref (b 14), .ref (b 15), .int (nI q), .int (nI mm), .ref (b 16), .ref (b 17), .ref (b 18), .ref (b 19), .ref (b 20), .ref (b 21), .int (I 35), .int (I 36), .int (I 37), .ref (b 22), .int (nI bd), .int (I 40), .int (I 41), .ref (b 23), .int (I 43), .ref (b 24)])), (b 1, .inl (g 0, 32, .inl a_child)), (b 19, .inl (g 0, 4, .inl a_held)), (b 20, .inl (g 0, 4, .inl a_heldNumber))] (fun r u => (r = 9 ∨ r = -1 ∨ (¬ a_heldNumber s1 < 0 ∧ ¬ nI n - 1 < a_heldNumber s1)) ∧ (r = kOn a_held a_heldNumber a_child n s1) ∧ u = [(b 0, .inr (9, [.int (nI n), .ref (b 1), .ref (b 2), .int (nI p0), .ref (b 3), .ref (b 4), .ref (b 5), .ref (b 6), .ref (b 7), .ref (b 8), .int (I 10), .ref (b 9), .int (nI t), .int (I 13), .int (I 14), .int (I 15), .long W, .int (I 17), .int (I 18), .int (I 19), .int (I 20), .ref (b 10), .ref (b 11), .ref (b 12), .ref (b 13), .ref (b 14), .ref (b 15), .int (nI q), .int (nI mm), .ref (b 16), .ref (b 17), .ref (b 18), .ref (b 19), .ref (b 20), .ref (b 21), .int (I 35), .int (I 36), .int (I 37), .ref (b 22), .int (nI bd), .int (I 40), .int (I 41), .ref (b 23), .int (I 43), .ref (b 24)])), (b 1, .inl (g 0, 32, .inl a_child)), (b 19, .inl (g 0, 4, .inl a_held)), (b 20, .inl (g 0, 4, .inl a_heldNumber))]) := by
  refine ci_in (by decide) (Nat.le_of_ble_eq_true rfl) (a0 := [b 0, b 1, b 19, b 20]) rfl (fun p e s m args below meth c A Q hQ B hr hsc => ?_)
  refine s_aload_n B dX9_kindOn_0 rfl 0 rfl ?_
  refine s_get (T := TX9) B inX9 0 rfl rfl 32 (Nat.le_of_ble_eq_true rfl) fl_X9_69 rfl rfl dX9_kindOn_1 ?_
  refine s_iload_n B dX9_kindOn_4 rfl 1 rfl ?_
  refine s_ialdN B 2 0 rfl rfl dX9_kindOn_5 (by omega) (by decide) ?_
  refine s_if_eq (tgt := 25) B dX9_kindOn_6 rfl (fun h6 => ?_) (fun h6 => ?_)
  · refine s_aload_n B dX9_kindOn_25 rfl 0 rfl ?_
    refine s_aload_n B dX9_kindOn_26 rfl 0 rfl ?_
    refine s_get (T := TX9) B inX9 0 rfl rfl 33 (Nat.le_of_ble_eq_true rfl) fl_X9_72 rfl rfl dX9_kindOn_27 ?_
    refine s_iload_n B dX9_kindOn_30 rfl 1 rfl ?_
    refine s_ialdN B 3 0 rfl rfl dX9_kindOn_31 (by omega) (by decide) ?_
    refine s_callVi B hsc (c_X9_isChild l D g b (upd (upd (upd (upd I 12 (nI t)) 27 (nI q)) 28 (nI mm)) 39 (nI bd)) W n p0 (a_heldNumber s1)) (gw_V ml_X9_206 im_yX9_isChild se_yX9_isChild ini_RX9 co_yX9_isChild) hd_X9_isChild rfl rfl ⟨(Nat.le_of_ble_eq_true rfl), (Nat.le_of_ble_eq_true rfl)⟩ [0] [0, 1, 2, 3, 4] rfl rfl rfl (ci := 9) (q0 := 0) rfl rfl rfl rfl rfl (Nat.le_of_ble_eq_true rfl) dX9_kindOn_32 (fun r_1 u_2 hpo => ?_)
    obtain ⟨rfl, rfl⟩ := hpo
    refine s_st (st' := [.int (if ¬ (a_heldNumber s1) < 0 ∧ ¬ nI n - 1 < (a_heldNumber s1) then 1 else 0)]) rfl ?_
    refine s_ws (ws' := [(b 0, .inr (9, [.int (nI n), .ref (b 1), .ref (b 2), .int (nI p0), .ref (b 3), .ref (b 4), .ref (b 5), .ref (b 6), .ref (b 7), .ref (b 8), .int (I 10), .ref (b 9), .int (nI t), .int (I 13), .int (I 14), .int (I 15), .long W, .int (I 17), .int (I 18), .int (I 19), .int (I 20), .ref (b 10), .ref (b 11), .ref (b 12), .ref (b 13), .ref (b 14), .ref (b 15), .int (nI q), .int (nI mm), .ref (b 16), .ref (b 17), .ref (b 18), .ref (b 19), .ref (b 20), .ref (b 21), .int (I 35), .int (I 36), .int (I 37), .ref (b 22), .int (nI bd), .int (I 40), .int (I 41), .ref (b 23), .int (I 43), .ref (b 24)])), (b 1, .inl (g 0, 32, .inl a_child)), (b 19, .inl (g 0, 4, .inl a_held)), (b 20, .inl (g 0, 4, .inl a_heldNumber))]) rfl ?_
    refine s_bif_eq (tgt := 52) B dX9_kindOn_35 rfl (fun h35 => ?_) (fun h35 => ?_)
    · refine s_iconst B dX9_kindOn_52 ic_m1 ?_
      refine s_iret B hQ hr dX9_kindOn_53 rfl ?_
      exact ⟨by first | assumption | decide | (intro h9; first | assumption | exact absurd h9 (by decide)) | omega | rfl | (refine ⟨_, ?_, by assumption⟩; omega) | (clear hQ B hr hsc; grind), (by unfold kOn; rw [if_pos h6, if_neg (show ¬ okNR _ _ from h35)]), rfl⟩
    · refine s_aload_n B dX9_kindOn_38 rfl 0 rfl ?_
      refine s_aload_n B dX9_kindOn_39 rfl 0 rfl ?_
      refine s_get (T := TX9) B inX9 0 rfl rfl 33 (Nat.le_of_ble_eq_true rfl) fl_X9_72 rfl rfl dX9_kindOn_40 ?_
      refine s_iload_n B dX9_kindOn_43 rfl 1 rfl ?_
      refine s_ialdN B 3 0 rfl rfl dX9_kindOn_44 (by omega) (by decide) ?_
      obtain ⟨k_3, hk_4, he_5⟩ := nat_lt1 (N := n) h35.1 h35.2 (by omega)
      refine s_st (st' := [.int (nI k_3), .ref (b 0)]) (by rw [he_5]) ?_
      refine s_iconst B dX9_kindOn_45 ic_0 ?_
      refine s_callVi B hsc (c_X9_its l D g b (upd (upd (upd (upd I 12 (nI t)) 27 (nI q)) 28 (nI mm)) 39 (nI bd)) W n p0 a_child k_3 0 (by omega) (by omega)) (gw_V ml_X9_209 im_yX9_its se_yX9_its ini_RX9 co_yX9_its) hd_X9_its rfl rfl ⟨(Nat.le_of_ble_eq_true rfl), (Nat.le_of_ble_eq_true rfl)⟩ [0, 1] [0, 1, 2, 3, 4] rfl rfl rfl (ci := 9) (q0 := 0) rfl rfl rfl rfl rfl (Nat.le_of_ble_eq_true rfl) dX9_kindOn_46 (fun r_6 u_7 hpo => ?_)
      obtain ⟨rfl, rfl⟩ := hpo
      refine s_st (st' := [.int (a_child (4 * k_3 + 0))]) rfl ?_
      refine s_ws (ws' := [(b 0, .inr (9, [.int (nI n), .ref (b 1), .ref (b 2), .int (nI p0), .ref (b 3), .ref (b 4), .ref (b 5), .ref (b 6), .ref (b 7), .ref (b 8), .int (I 10), .ref (b 9), .int (nI t), .int (I 13), .int (I 14), .int (I 15), .long W, .int (I 17), .int (I 18), .int (I 19), .int (I 20), .ref (b 10), .ref (b 11), .ref (b 12), .ref (b 13), .ref (b 14), .ref (b 15), .int (nI q), .int (nI mm), .ref (b 16), .ref (b 17), .ref (b 18), .ref (b 19), .ref (b 20), .ref (b 21), .int (I 35), .int (I 36), .int (I 37), .ref (b 22), .int (nI bd), .int (I 40), .int (I 41), .ref (b 23), .int (I 43), .ref (b 24)])), (b 1, .inl (g 0, 32, .inl a_child)), (b 19, .inl (g 0, 4, .inl a_held)), (b 20, .inl (g 0, 4, .inl a_heldNumber))]) rfl ?_
      refine s_goto (tgt := 53) B dX9_kindOn_49 rfl ?_
      refine s_iret B hQ hr dX9_kindOn_53 rfl ?_
      exact ⟨by first | assumption | decide | (intro h9; first | assumption | exact absurd h9 (by decide)) | omega | rfl | (refine ⟨_, ?_, by assumption⟩; omega) | (clear hQ B hr hsc; grind), (by unfold kOn; rw [if_pos h6, if_pos (show okNR _ _ from h35), he_5, nI_clamp (by omega)]), rfl⟩
  · refine s_aload_n B dX9_kindOn_9 rfl 0 rfl ?_
    refine s_get (T := TX9) B inX9 0 rfl rfl 32 (Nat.le_of_ble_eq_true rfl) fl_X9_69 rfl rfl dX9_kindOn_10 ?_
    refine s_iload_n B dX9_kindOn_13 rfl 1 rfl ?_
    refine s_ialdN B 2 0 rfl rfl dX9_kindOn_14 (by omega) (by decide) ?_
    refine s_if_ge (tgt := 22) B dX9_kindOn_15 rfl (fun h15 => ?_) (fun h15 => ?_)
    · refine s_bipush B dX9_kindOn_22 bp_9 ?_
      refine s_iret B hQ hr dX9_kindOn_24 rfl ?_
      exact ⟨by first | assumption | decide | (intro h9; first | assumption | exact absurd h9 (by decide)) | omega | rfl | (refine ⟨_, ?_, by assumption⟩; omega) | (clear hQ B hr hsc; grind), (by unfold kOn; rw [if_neg h6, if_neg (Int32.not_lt.mpr h15)]), rfl⟩
    · refine s_iconst B dX9_kindOn_18 ic_m1 ?_
      refine s_goto (tgt := 24) B dX9_kindOn_19 rfl ?_
      refine s_iret B hQ hr dX9_kindOn_24 rfl ?_
      exact ⟨by first | assumption | decide | (intro h9; first | assumption | exact absurd h9 (by decide)) | omega | rfl | (refine ⟨_, ?_, by assumption⟩; omega) | (clear hQ B hr hsc; grind), (by unfold kOn; rw [if_neg h6, if_pos (by first | assumption | exact Int32.not_le.mp (by assumption))]), rfl⟩
def rmX9_taken : Room := { frames := 3, cells := 0, slots := 0, locals := 64 }
theorem hd_X9_taken : yX9_taken.cls = RX9 ∧ yX9_taken.cls ≠ "java/lang/invoke/MethodHandle" ∧ yX9_taken.cls ≠ "java/lang/invoke/VarHandle" ∧ (parseMethodDescriptor yX9_taken.desc).map (fun d => d.parameters.length) = some 2 := by decide +kernel
set_option maxHeartbeats 4000000 in
set_option maxRecDepth 100000 in
theorem c_X9_taken (l : Launch) (D : va_G) (g : Nat → ClassId) (b : Nat → Nat) (I : Nat → Int32) (W : Int64) (n p0 t q mm bd : Nat) (a_child : Nat → Int32) (a_held : Nat → Int32) (a_heldNumber : Nat → Int32) (a_heldSize : Nat → Int32) (s0 : Int32) (x0 : Int32) (hn : n ≤ 8) (hp : p0 = 0 ∨ p0 = 25) (ht : t ≤ 240) (hq0 : q ≤ 20) (hmm : mm ≤ 20) (hbd : bd ≤ 30) : Ci l yX9_taken (WW yX9_taken cX9_taken 4 (some FieldType.int)) rmX9_taken D vwCl (TY g) [.ref (b 0), .int s0, .int x0] [(b 0, .inr (9, [.int (nI n), .ref (b 1), .ref (b 2), .int (nI p0), .ref (b 3), .ref (b 4), .ref (b 5), .ref (b 6), .ref (b 7), .ref (b 8), .int (I 10), .ref (b 9), .int (nI t), .int (I 13), .int (I 14), .int (I 15), .long W, .int (I 17), .int (I 18), .int (I 19), .int (I 20), .ref (b 10), .ref (b 11), .ref (b 12), .ref (b 13), .ref (b 14), .ref (b 15), .int (nI q), .int (nI mm), .ref (b 16), .ref (b 17), .ref (b 18), .ref (b 19), .ref (b 20), .ref (b 21), .int (I 35), .int (I 36), .int (I 37), .ref (b 22), .int (nI bd), .int (I 40), .int (I 41), .ref (b 23), .int (I 43), .ref (b 24)])), (b 1, .inl (g 0, 32, .inl a_child)), (b 19, .inl (g 0, 4, .inl a_held)), (b 20, .inl (g 0, 4, .inl a_heldNumber)), (b 21, .inl (g 0, 4, .inl a_heldSize))] (fun r u => (r = aTakR s0 x0 a_held a_heldNumber a_heldSize a_child n) ∧ u = [(b 0, .inr (9, [.int (nI n), .ref (b 1), .ref (b 2), .int (nI p0), .ref (b 3), .ref (b 4), .ref (b 5), .ref (b 6), .ref (b 7), .ref (b 8), .int (I 10), .ref (b 9), .int (nI t), .int (I 13), .int (I 14), .int (I 15), .long W, .int (I 17), .int (I 18), .int (I 19), .int (I 20), .ref (b 10), .ref (b 11), .ref (b 12), .ref (b 13), .ref (b 14), .ref (b 15), .int (nI q), .int (nI mm), .ref (b 16), .ref (b 17), .ref (b 18), .ref (b 19), .ref (b 20), .ref (b 21), .int (I 35), .int (I 36), .int (I 37), .ref (b 22), .int (nI bd), .int (I 40), .int (I 41), .ref (b 23), .int (I 43), .ref (b 24)])), (b 1, .inl (g 0, 32, .inl a_child)), (b 19, .inl (g 0, 4, .inl a_held)), (b 20, .inl (g 0, 4, .inl a_heldNumber)), (b 21, .inl (g 0, 4, .inl a_heldSize))]) := by
  refine ci_in (by decide) (Nat.le_of_ble_eq_true rfl) (a0 := [b 0, b 1, b 19, b 20, b 21]) rfl (fun p e s m args below meth c A Q hQ B hr hsc => ?_)
  refine s_iload_n B dX9_taken_0 rfl 1 rfl ?_
  refine s_callSi B hsc (c_X9_isShelf l D g s0) (gw_S ml_X9_266 sm_yX9_isShelf ini_RX9 co_yX9_isShelf) hd_X9_isShelf rfl rfl ⟨(Nat.le_of_ble_eq_true rfl), (Nat.le_of_ble_eq_true rfl)⟩ [] [0, 1, 2, 3, 4] rfl rfl rfl rfl rfl (Nat.le_of_ble_eq_true rfl) dX9_taken_1 (fun r_1 u_2 hpo => ?_)
  obtain ⟨rfl, rfl⟩ := hpo
  refine s_st (st' := [.int (if ¬ s0 < 0 ∧ ¬ 3 < s0 then 1 else 0)]) rfl ?_
  refine s_ws (ws' := [(b 0, .inr (9, [.int (nI n), .ref (b 1), .ref (b 2), .int (nI p0), .ref (b 3), .ref (b 4), .ref (b 5), .ref (b 6), .ref (b 7), .ref (b 8), .int (I 10), .ref (b 9), .int (nI t), .int (I 13), .int (I 14), .int (I 15), .long W, .int (I 17), .int (I 18), .int (I 19), .int (I 20), .ref (b 10), .ref (b 11), .ref (b 12), .ref (b 13), .ref (b 14), .ref (b 15), .int (nI q), .int (nI mm), .ref (b 16), .ref (b 17), .ref (b 18), .ref (b 19), .ref (b 20), .ref (b 21), .int (I 35), .int (I 36), .int (I 37), .ref (b 22), .int (nI bd), .int (I 40), .int (I 41), .ref (b 23), .int (I 43), .ref (b 24)])), (b 1, .inl (g 0, 32, .inl a_child)), (b 19, .inl (g 0, 4, .inl a_held)), (b 20, .inl (g 0, 4, .inl a_heldNumber)), (b 21, .inl (g 0, 4, .inl a_heldSize))]) rfl ?_
  refine s_bif_eq (tgt := 27) B dX9_taken_4 rfl (fun h4 => ?_) (fun h4 => ?_)
  · refine s_iconst B dX9_taken_27 ic_m1 ?_
    refine s_iret B hQ hr dX9_taken_28 rfl ?_
    exact ⟨(by clear hQ B hr hsc; grind [aTakR]), rfl⟩
  · obtain ⟨k_3, hk_4, rfl⟩ := nat_le (N := 3) h4.1 h4.2 (by decide)
    have M29 : (¬ (nI k_3) < 0 ∧ ¬ 3 < (nI k_3)) → (k_3 ≤ 3) → ((¬ x0 < 0 ∧ ¬ 5 < x0) ∨ (¬ x0 < 10 ∧ ¬ 13 < x0)) → Sx p l e rmX9_taken s m args below meth c D vwCl A 4 Q 29 [(0, .ref (b 0)), (1, .int (nI k_3)), (2, .int x0)] [] [(b 0, .inr (9, [.int (nI n), .ref (b 1), .ref (b 2), .int (nI p0), .ref (b 3), .ref (b 4), .ref (b 5), .ref (b 6), .ref (b 7), .ref (b 8), .int (I 10), .ref (b 9), .int (nI t), .int (I 13), .int (I 14), .int (I 15), .long W, .int (I 17), .int (I 18), .int (I 19), .int (I 20), .ref (b 10), .ref (b 11), .ref (b 12), .ref (b 13), .ref (b 14), .ref (b 15), .int (nI q), .int (nI mm), .ref (b 16), .ref (b 17), .ref (b 18), .ref (b 19), .ref (b 20), .ref (b 21), .int (I 35), .int (I 36), .int (I 37), .ref (b 22), .int (nI bd), .int (I 40), .int (I 41), .ref (b 23), .int (I 43), .ref (b 24)])), (b 1, .inl (g 0, 32, .inl a_child)), (b 19, .inl (g 0, 4, .inl a_held)), (b 20, .inl (g 0, 4, .inl a_heldNumber)), (b 21, .inl (g 0, 4, .inl a_heldSize))] := by
      intro h4 hk_4 hX_9
      refine s_aload_n B dX9_taken_29 rfl 0 rfl ?_
      refine s_iload_n B dX9_taken_30 rfl 1 rfl ?_
      refine s_callVi B hsc (c_X9_kindOn l D g b I W n p0 t q mm bd a_child a_held a_heldNumber k_3 (by omega) (by omega) (by omega) (by omega) (by omega) (by omega) (by first | assumption | decide | (intro h9; first | assumption | exact absurd h9 (by decide)) | omega | rfl | (refine ⟨_, ?_, by assumption⟩; omega) | (clear hQ B hr hsc; grind))) (gw_V ml_X9_277 im_yX9_kindOn se_yX9_kindOn ini_RX9 co_yX9_kindOn) hd_X9_kindOn rfl rfl ⟨(Nat.le_of_ble_eq_true rfl), (Nat.le_of_ble_eq_true rfl)⟩ [0, 1, 2, 3] [0, 1, 2, 3, 4] rfl rfl rfl (ci := 9) (q0 := 0) rfl rfl rfl rfl rfl (Nat.le_of_ble_eq_true rfl) dX9_taken_31 (fun r_10 u_11 hpo => ?_)
      obtain ⟨hf_12, hf_13, rfl⟩ := hpo
      refine s_ws (ws' := [(b 0, .inr (9, [.int (nI n), .ref (b 1), .ref (b 2), .int (nI p0), .ref (b 3), .ref (b 4), .ref (b 5), .ref (b 6), .ref (b 7), .ref (b 8), .int (I 10), .ref (b 9), .int (nI t), .int (I 13), .int (I 14), .int (I 15), .long W, .int (I 17), .int (I 18), .int (I 19), .int (I 20), .ref (b 10), .ref (b 11), .ref (b 12), .ref (b 13), .ref (b 14), .ref (b 15), .int (nI q), .int (nI mm), .ref (b 16), .ref (b 17), .ref (b 18), .ref (b 19), .ref (b 20), .ref (b 21), .int (I 35), .int (I 36), .int (I 37), .ref (b 22), .int (nI bd), .int (I 40), .int (I 41), .ref (b 23), .int (I 43), .ref (b 24)])), (b 1, .inl (g 0, 32, .inl a_child)), (b 19, .inl (g 0, 4, .inl a_held)), (b 20, .inl (g 0, 4, .inl a_heldNumber)), (b 21, .inl (g 0, 4, .inl a_heldSize))]) rfl ?_
      refine s_istore_n (lv' := [(3, _), (0, _), (1, _), (2, _)]) B dX9_taken_34 rfl (Nat.le_of_ble_eq_true rfl) rfl ?_
      refine s_iload_n B dX9_taken_35 rfl 0 rfl ?_
      refine s_if_ge (tgt := 42) B dX9_taken_36 rfl (fun h36 => ?_) (fun h36 => ?_)
      · refine s_iload_n B dX9_taken_42 rfl 0 rfl ?_
        refine s_bipush B dX9_taken_43 bp_9 ?_
        refine s_icmp_ne (tgt := 73) B dX9_taken_45 rfl (fun h45 => ?_) (fun h45 => ?_)
        · refine s_iload_n B dX9_taken_73 rfl 3 rfl ?_
          refine s_bipush B dX9_taken_74 bp_10 ?_
          refine s_icmp_ge (tgt := 96) B dX9_taken_76 rfl (fun h76 => ?_) (fun h76 => ?_)
          · refine s_bipush B dX9_taken_96 bp_m13 ?_
            refine s_iret B hQ hr dX9_taken_98 rfl ?_
            exact ⟨(by clear hQ B hr hsc; have ec0 : (nI k_3).toNatClampNeg = k_3 := nI_clamp (by omega); grind [aTakR]), rfl⟩
          · refine s_iload_n B dX9_taken_79 rfl 0 rfl ?_
            refine s_iload_n B dX9_taken_80 rfl 3 rfl ?_
            refine s_callSi B hsc (c_X9_isUnder l D g r_10 x0) (gw_S ml_X9_280 sm_yX9_isUnder ini_RX9 co_yX9_isUnder) hd_X9_isUnder rfl rfl ⟨(Nat.le_of_ble_eq_true rfl), (Nat.le_of_ble_eq_true rfl)⟩ [] [0, 1, 2, 3, 4] rfl rfl rfl rfl rfl (Nat.le_of_ble_eq_true rfl) dX9_taken_81 (fun r_14 u_15 hpo => ?_)
            obtain ⟨rfl, rfl⟩ := hpo
            refine s_st (st' := [.int (if x0 = 0 ∨ x0 = r_10 ∨ (x0 = 1 ∧ r_10 = 4) ∨ (x0 = 2 ∧ r_10 = 5) then 1 else 0)]) rfl ?_
            refine s_ws (ws' := [(b 0, .inr (9, [.int (nI n), .ref (b 1), .ref (b 2), .int (nI p0), .ref (b 3), .ref (b 4), .ref (b 5), .ref (b 6), .ref (b 7), .ref (b 8), .int (I 10), .ref (b 9), .int (nI t), .int (I 13), .int (I 14), .int (I 15), .long W, .int (I 17), .int (I 18), .int (I 19), .int (I 20), .ref (b 10), .ref (b 11), .ref (b 12), .ref (b 13), .ref (b 14), .ref (b 15), .int (nI q), .int (nI mm), .ref (b 16), .ref (b 17), .ref (b 18), .ref (b 19), .ref (b 20), .ref (b 21), .int (I 35), .int (I 36), .int (I 37), .ref (b 22), .int (nI bd), .int (I 40), .int (I 41), .ref (b 23), .int (I 43), .ref (b 24)])), (b 1, .inl (g 0, 32, .inl a_child)), (b 19, .inl (g 0, 4, .inl a_held)), (b 20, .inl (g 0, 4, .inl a_heldNumber)), (b 21, .inl (g 0, 4, .inl a_heldSize))]) rfl ?_
            refine s_bif_eq (tgt := 96) B dX9_taken_84 rfl (fun h84 => ?_) (fun h84 => ?_)
            · refine s_bipush B dX9_taken_96 bp_m13 ?_
              refine s_iret B hQ hr dX9_taken_98 rfl ?_
              exact ⟨(by clear hQ B hr hsc; have ec0 : (nI k_3).toNatClampNeg = k_3 := nI_clamp (by omega); grind [aTakR]), rfl⟩
            · refine s_aload_n B dX9_taken_87 rfl 1 rfl ?_
              refine s_get (T := TX9) B inX9 0 rfl rfl 33 (Nat.le_of_ble_eq_true rfl) fl_X9_72 rfl rfl dX9_taken_88 ?_
              refine s_iload_n B dX9_taken_91 rfl 2 rfl ?_
              refine s_ialdN B 3 0 rfl rfl dX9_taken_92 (by omega) (by decide) ?_
              refine s_goto (tgt := 98) B dX9_taken_93 rfl ?_
              refine s_iret B hQ hr dX9_taken_98 rfl ?_
              exact ⟨(by clear hQ B hr hsc; have ec0 : (nI k_3).toNatClampNeg = k_3 := nI_clamp (by omega); grind [aTakR]), rfl⟩
        · refine s_iload_n B dX9_taken_48 rfl 3 rfl ?_
          refine s_bipush B dX9_taken_49 bp_10 ?_
          refine s_aload_n B dX9_taken_51 rfl 1 rfl ?_
          refine s_get (T := TX9) B inX9 0 rfl rfl 33 (Nat.le_of_ble_eq_true rfl) fl_X9_72 rfl rfl dX9_taken_52 ?_
          refine s_iload_n B dX9_taken_55 rfl 2 rfl ?_
          refine s_ialdN B 3 0 rfl rfl dX9_taken_56 (by omega) (by decide) ?_
          refine s_iadd B dX9_taken_57 ?_
          refine s_icmp_ne (tgt := 70) B dX9_taken_58 rfl (fun h58 => ?_) (fun h58 => ?_)
          · refine s_bipush B dX9_taken_70 bp_m13 ?_
            refine s_iret B hQ hr dX9_taken_72 rfl ?_
            exact ⟨(by clear hQ B hr hsc; have ec0 : (nI k_3).toNatClampNeg = k_3 := nI_clamp (by omega); grind [aTakR]), rfl⟩
          · refine s_aload_n B dX9_taken_61 rfl 1 rfl ?_
            refine s_get (T := TX9) B inX9 0 rfl rfl 34 (Nat.le_of_ble_eq_true rfl) fl_X9_75 rfl rfl dX9_taken_62 ?_
            refine s_iload_n B dX9_taken_65 rfl 2 rfl ?_
            refine s_ialdN B 4 0 rfl rfl dX9_taken_66 (by omega) (by decide) ?_
            refine s_goto (tgt := 72) B dX9_taken_67 rfl ?_
            refine s_iret B hQ hr dX9_taken_72 rfl ?_
            exact ⟨(by clear hQ B hr hsc; have ec0 : (nI k_3).toNatClampNeg = k_3 := nI_clamp (by omega); grind [aTakR]), rfl⟩
      · refine s_bipush B dX9_taken_39 bp_m11 ?_
        refine s_iret B hQ hr dX9_taken_41 rfl ?_
        exact ⟨(by clear hQ B hr hsc; have ec0 : (nI k_3).toNatClampNeg = k_3 := nI_clamp (by omega); grind [aTakR]), rfl⟩
    refine s_iload_n B dX9_taken_7 rfl 2 rfl ?_
    refine s_iconst B dX9_taken_8 ic_0 ?_
    refine s_iconst B dX9_taken_9 ic_5 ?_
    refine s_callSi B hsc (c_X9_in l D g x0 0 5) (gw_S ml_X9_87 sm_yX9_in ini_RX9 co_yX9_in) hd_X9_in rfl rfl ⟨(Nat.le_of_ble_eq_true rfl), (Nat.le_of_ble_eq_true rfl)⟩ [] [0, 1, 2, 3, 4] rfl rfl rfl rfl rfl (Nat.le_of_ble_eq_true rfl) dX9_taken_10 (fun r_5 u_6 hpo => ?_)
    obtain ⟨rfl, rfl⟩ := hpo
    refine s_st (st' := [.int (if ¬ x0 < 0 ∧ ¬ 5 < x0 then 1 else 0)]) rfl ?_
    refine s_ws (ws' := [(b 0, .inr (9, [.int (nI n), .ref (b 1), .ref (b 2), .int (nI p0), .ref (b 3), .ref (b 4), .ref (b 5), .ref (b 6), .ref (b 7), .ref (b 8), .int (I 10), .ref (b 9), .int (nI t), .int (I 13), .int (I 14), .int (I 15), .long W, .int (I 17), .int (I 18), .int (I 19), .int (I 20), .ref (b 10), .ref (b 11), .ref (b 12), .ref (b 13), .ref (b 14), .ref (b 15), .int (nI q), .int (nI mm), .ref (b 16), .ref (b 17), .ref (b 18), .ref (b 19), .ref (b 20), .ref (b 21), .int (I 35), .int (I 36), .int (I 37), .ref (b 22), .int (nI bd), .int (I 40), .int (I 41), .ref (b 23), .int (I 43), .ref (b 24)])), (b 1, .inl (g 0, 32, .inl a_child)), (b 19, .inl (g 0, 4, .inl a_held)), (b 20, .inl (g 0, 4, .inl a_heldNumber)), (b 21, .inl (g 0, 4, .inl a_heldSize))]) rfl ?_
    refine s_bif_ne (tgt := 29) B dX9_taken_13 rfl (fun h13 => ?_) (fun h13 => ?_)
    · refine s_lv (lv' := [(0, _), (1, _), (2, _)]) [0, 1, 2] rfl ?_
      exact M29  h4 hk_4 (by first | exact Or.inl (by assumption) | exact Or.inr (by assumption))
    · refine s_iload_n B dX9_taken_16 rfl 2 rfl ?_
      refine s_bipush B dX9_taken_17 bp_10 ?_
      refine s_bipush B dX9_taken_19 bp_13 ?_
      refine s_callSi B hsc (c_X9_in l D g x0 10 13) (gw_S ml_X9_87 sm_yX9_in ini_RX9 co_yX9_in) hd_X9_in rfl rfl ⟨(Nat.le_of_ble_eq_true rfl), (Nat.le_of_ble_eq_true rfl)⟩ [] [0, 1, 2, 3, 4] rfl rfl rfl rfl rfl (Nat.le_of_ble_eq_true rfl) dX9_taken_21 (fun r_7 u_8 hpo => ?_)
      obtain ⟨rfl, rfl⟩ := hpo
      refine s_st (st' := [.int (if ¬ x0 < 10 ∧ ¬ 13 < x0 then 1 else 0)]) rfl ?_
      refine s_ws (ws' := [(b 0, .inr (9, [.int (nI n), .ref (b 1), .ref (b 2), .int (nI p0), .ref (b 3), .ref (b 4), .ref (b 5), .ref (b 6), .ref (b 7), .ref (b 8), .int (I 10), .ref (b 9), .int (nI t), .int (I 13), .int (I 14), .int (I 15), .long W, .int (I 17), .int (I 18), .int (I 19), .int (I 20), .ref (b 10), .ref (b 11), .ref (b 12), .ref (b 13), .ref (b 14), .ref (b 15), .int (nI q), .int (nI mm), .ref (b 16), .ref (b 17), .ref (b 18), .ref (b 19), .ref (b 20), .ref (b 21), .int (I 35), .int (I 36), .int (I 37), .ref (b 22), .int (nI bd), .int (I 40), .int (I 41), .ref (b 23), .int (I 43), .ref (b 24)])), (b 1, .inl (g 0, 32, .inl a_child)), (b 19, .inl (g 0, 4, .inl a_held)), (b 20, .inl (g 0, 4, .inl a_heldNumber)), (b 21, .inl (g 0, 4, .inl a_heldSize))]) rfl ?_
      refine s_bif_ne (tgt := 29) B dX9_taken_24 rfl (fun h24 => ?_) (fun h24 => ?_)
      · refine s_lv (lv' := [(0, _), (1, _), (2, _)]) [0, 1, 2] rfl ?_
        exact M29  h4 hk_4 (by first | exact Or.inl (by assumption) | exact Or.inr (by assumption))
      · refine s_iconst B dX9_taken_27 ic_m1 ?_
        refine s_iret B hQ hr dX9_taken_28 rfl ?_
        exact ⟨(by clear hQ B hr hsc; have ec0 : (nI k_3).toNatClampNeg = k_3 := nI_clamp (by omega); grind [aTakR]), rfl⟩
def rmX9_ran : Room := { frames := 0, cells := 0, slots := 0, locals := 0 }
theorem hd_X9_ran : yX9_ran.cls = RX9 ∧ yX9_ran.cls ≠ "java/lang/invoke/MethodHandle" ∧ yX9_ran.cls ≠ "java/lang/invoke/VarHandle" ∧ (parseMethodDescriptor yX9_ran.desc).map (fun d => d.parameters.length) = some 1 := by decide +kernel
set_option maxHeartbeats 4000000 in
set_option maxRecDepth 100000 in
theorem c_X9_ran (l : Launch) (D : va_G) (g : Nat → ClassId) (b : Nat → Nat) (I : Nat → Int32) (W : Int64) (n p0 t q mm bd : Nat) (a_traced : Nat → Int32) (x0 : Int32) (hn : n ≤ 8) (hp : p0 = 0 ∨ p0 = 25) (ht : t ≤ 240) (hq0 : q ≤ 20) (hmm : mm ≤ 20) (hbd : bd ≤ 30) : Cv l yX9_ran (WW yX9_ran cX9_ran 2 none) rmX9_ran D vwCl (TY g) [.ref (b 0), .int x0] [(b 0, .inr (9, [.int (nI n), .ref (b 1), .ref (b 2), .int (nI p0), .ref (b 3), .ref (b 4), .ref (b 5), .ref (b 6), .ref (b 7), .ref (b 8), .int (I 10), .ref (b 9), .int (nI t), .int (I 13), .int (I 14), .int (I 15), .long W, .int (I 17), .int (I 18), .int (I 19), .int (I 20), .ref (b 10), .ref (b 11), .ref (b 12), .ref (b 13), .ref (b 14), .ref (b 15), .int (nI q), .int (nI mm), .ref (b 16), .ref (b 17), .ref (b 18), .ref (b 19), .ref (b 20), .ref (b 21), .int (I 35), .int (I 36), .int (I 37), .ref (b 22), .int (nI bd), .int (I 40), .int (I 41), .ref (b 23), .int (I 43), .ref (b 24)])), (b 22, .inl (g 0, 30, .inl a_traced))] (fun u => ∃ (bd' : Nat) (a_traced' : Nat → Int32), (bd' ≤ 30) ∧ (((a_traced', bd') : MT) = tPush x0 ((a_traced, bd) : MT)) ∧ u = [(b 0, .inr (9, [.int (nI n), .ref (b 1), .ref (b 2), .int (nI p0), .ref (b 3), .ref (b 4), .ref (b 5), .ref (b 6), .ref (b 7), .ref (b 8), .int (I 10), .ref (b 9), .int (nI t), .int (I 13), .int (I 14), .int (I 15), .long W, .int (I 17), .int (I 18), .int (I 19), .int (I 20), .ref (b 10), .ref (b 11), .ref (b 12), .ref (b 13), .ref (b 14), .ref (b 15), .int (nI q), .int (nI mm), .ref (b 16), .ref (b 17), .ref (b 18), .ref (b 19), .ref (b 20), .ref (b 21), .int (I 35), .int (I 36), .int (I 37), .ref (b 22), .int (nI bd'), .int (I 40), .int (I 41), .ref (b 23), .int (I 43), .ref (b 24)])), (b 22, .inl (g 0, 30, .inl a_traced'))]) := by
  refine cv_in (by decide) (Nat.le_of_ble_eq_true rfl) (a0 := [b 0, b 22]) rfl (fun p e s m args below meth c A Q hQ B hr hsc => ?_)
  refine s_aload_n B dX9_ran_0 rfl 0 rfl ?_
  refine s_get (T := TX9) B inX9 0 rfl rfl 39 (Nat.le_of_ble_eq_true rfl) fl_X9_283 rfl rfl dX9_ran_1 ?_
  refine s_bipush B dX9_ran_4 bp_30 ?_
  refine s_icmp_ge (tgt := 29) B dX9_ran_6 rfl (fun h6 => ?_) (fun h6 => ?_)
  · replace h6 : 30 ≤ bd := (nI_leI (a := 30) (b := bd) (by omega) (by omega)).mp h6
    refine s_vret B hQ hr dX9_ran_29 rfl ?_
    exact ⟨bd, a_traced, by omega, (by first | exact tPush_y (by assumption) | exact tPush_n (by assumption)), rfl⟩
  · replace h6 : ¬ 30 ≤ bd := fun hh => h6 ((nI_leI (a := 30) (b := bd) (by omega) (by omega)).mpr hh)
    refine s_aload_n B dX9_ran_9 rfl 0 rfl ?_
    refine s_get (T := TX9) B inX9 0 rfl rfl 38 (Nat.le_of_ble_eq_true rfl) fl_X9_78 rfl rfl dX9_ran_10 ?_
    refine s_aload_n B dX9_ran_13 rfl 0 rfl ?_
    refine s_get (T := TX9) B inX9 0 rfl rfl 39 (Nat.le_of_ble_eq_true rfl) fl_X9_283 rfl rfl dX9_ran_14 ?_
    refine s_iload_n B dX9_ran_17 rfl 1 rfl ?_
    refine s_iastN (ws' := [_, _]) B 1 0 rfl rfl rfl dX9_ran_18 (by omega) (by decide) ?_
    refine s_aload_n B dX9_ran_19 rfl 0 rfl ?_
    refine s_dup B dX9_ran_20 rfl ?_
    refine s_get (T := TX9) B inX9 0 rfl rfl 39 (Nat.le_of_ble_eq_true rfl) fl_X9_283 rfl rfl dX9_ran_21 ?_
    refine s_iconst B dX9_ran_24 ic_1 ?_
    refine s_iaddE B dX9_ran_25 (nI_add bd 1) ?_
    refine s_put (T := TX9) (ws' := [_, _]) B inX9 tyX9_ok nmX9 0 rfl rfl 39 (Nat.le_of_ble_eq_true rfl) fl_X9_283 rfl rfl rfl rfl (Nat.le_of_ble_eq_true rfl) rfl dX9_ran_26 ?_
    refine s_vret B hQ hr dX9_ran_29 rfl ?_
    exact ⟨(bd + 1), (upd a_traced bd x0), by omega, (by first | exact tPush_y (by assumption) | exact tPush_n (by assumption)), rfl⟩
def rmX9_plainKnocks : Room := { frames := 1, cells := 0, slots := 0, locals := 21 }
theorem hd_X9_plainKnocks : yX9_plainKnocks.cls = RX9 ∧ yX9_plainKnocks.cls ≠ "java/lang/invoke/MethodHandle" ∧ yX9_plainKnocks.cls ≠ "java/lang/invoke/VarHandle" ∧ (parseMethodDescriptor yX9_plainKnocks.desc).map (fun d => d.parameters.length) = some 1 := by decide +kernel
set_option maxHeartbeats 4000000 in
set_option maxRecDepth 100000 in
theorem c_X9_plainKnocks (l : Launch) (D : va_G) (g : Nat → ClassId) (b : Nat → Nat) (I : Nat → Int32) (W : Int64) (n p0 t q mm bd : Nat) (a_traced : Nat → Int32) (x0 : Int32) (hn : n ≤ 8) (hp : p0 = 0 ∨ p0 = 25) (ht : t ≤ 240) (hq0 : q ≤ 20) (hmm : mm ≤ 20) (hbd : bd ≤ 30) : Ci l yX9_plainKnocks (WW yX9_plainKnocks cX9_plainKnocks 2 (some FieldType.int)) rmX9_plainKnocks D vwCl (TY g) [.ref (b 0), .int x0] [(b 0, .inr (9, [.int (nI n), .ref (b 1), .ref (b 2), .int (nI p0), .ref (b 3), .ref (b 4), .ref (b 5), .ref (b 6), .ref (b 7), .ref (b 8), .int (I 10), .ref (b 9), .int (nI t), .int (I 13), .int (I 14), .int (I 15), .long W, .int (I 17), .int (I 18), .int (I 19), .int (I 20), .ref (b 10), .ref (b 11), .ref (b 12), .ref (b 13), .ref (b 14), .ref (b 15), .int (nI q), .int (nI mm), .ref (b 16), .ref (b 17), .ref (b 18), .ref (b 19), .ref (b 20), .ref (b 21), .int (I 35), .int (I 36), .int (I 37), .ref (b 22), .int (nI bd), .int (I 40), .int (I 41), .ref (b 23), .int (I 43), .ref (b 24)])), (b 22, .inl (g 0, 30, .inl a_traced))] (fun r u => ∃ (bd' : Nat) (a_traced' : Nat → Int32), (bd' ≤ 30) ∧ (((r, (I 40), ((a_traced', bd') : MT)) : Int32 × Int32 × MT) = vRun (rPK (I 36) x0 (I 40)) ((a_traced, bd) : MT)) ∧ u = [(b 0, .inr (9, [.int (nI n), .ref (b 1), .ref (b 2), .int (nI p0), .ref (b 3), .ref (b 4), .ref (b 5), .ref (b 6), .ref (b 7), .ref (b 8), .int (I 10), .ref (b 9), .int (nI t), .int (I 13), .int (I 14), .int (I 15), .long W, .int (I 17), .int (I 18), .int (I 19), .int (I 20), .ref (b 10), .ref (b 11), .ref (b 12), .ref (b 13), .ref (b 14), .ref (b 15), .int (nI q), .int (nI mm), .ref (b 16), .ref (b 17), .ref (b 18), .ref (b 19), .ref (b 20), .ref (b 21), .int (I 35), .int (I 36), .int (I 37), .ref (b 22), .int (nI bd'), .int (I 40), .int (I 41), .ref (b 23), .int (I 43), .ref (b 24)])), (b 22, .inl (g 0, 30, .inl a_traced'))]) := by
  refine ci_in (by decide) (Nat.le_of_ble_eq_true rfl) (a0 := [b 0, b 22]) rfl (fun p e s m args below meth c A Q hQ B hr hsc => ?_)
  refine s_aload_n B dX9_plainKnocks_0 rfl 0 rfl ?_
  refine s_bipush B dX9_plainKnocks_1 bp_10 ?_
  refine s_callVv B hsc (c_X9_ran l D g b I W n p0 t q mm bd a_traced 10 (by omega) (by omega) (by omega) (by omega) (by omega) (by omega)) (gw_V ml_X9_286 im_yX9_ran se_yX9_ran ini_RX9 co_yX9_ran) hd_X9_ran rfl rfl ⟨(Nat.le_of_ble_eq_true rfl), (Nat.le_of_ble_eq_true rfl)⟩ [0, 1] [0, 1, 2, 3, 4] rfl rfl rfl (ci := 9) (q0 := 0) rfl rfl rfl rfl rfl (Nat.le_of_ble_eq_true rfl) dX9_plainKnocks_3 (fun u_2 hpo => ?_)
  obtain ⟨bd_3, a_traced_4, hf_5, hf_6, rfl⟩ := hpo
  refine s_ws (ws' := [(b 0, .inr (9, [.int (nI n), .ref (b 1), .ref (b 2), .int (nI p0), .ref (b 3), .ref (b 4), .ref (b 5), .ref (b 6), .ref (b 7), .ref (b 8), .int (I 10), .ref (b 9), .int (nI t), .int (I 13), .int (I 14), .int (I 15), .long W, .int (I 17), .int (I 18), .int (I 19), .int (I 20), .ref (b 10), .ref (b 11), .ref (b 12), .ref (b 13), .ref (b 14), .ref (b 15), .int (nI q), .int (nI mm), .ref (b 16), .ref (b 17), .ref (b 18), .ref (b 19), .ref (b 20), .ref (b 21), .int (I 35), .int (I 36), .int (I 37), .ref (b 22), .int (nI bd_3), .int (I 40), .int (I 41), .ref (b 23), .int (I 43), .ref (b 24)])), (b 22, .inl (g 0, 30, .inl a_traced_4))]) rfl ?_
  refine s_iload_n B dX9_plainKnocks_6 rfl 1 rfl ?_
  refine s_aload_n B dX9_plainKnocks_7 rfl 0 rfl ?_
  refine s_get (T := TX9) B inX9 0 rfl rfl 36 (Nat.le_of_ble_eq_true rfl) fl_X9_289 rfl rfl dX9_plainKnocks_8 ?_
  refine s_iadd B dX9_plainKnocks_11 ?_
  refine s_iret B hQ hr dX9_plainKnocks_12 rfl ?_
  exact ⟨bd_3, a_traced_4, by omega, (vRun_pr hf_6 rfl), rfl⟩
def rmX9_illKnocks : Room := { frames := 2, cells := 0, slots := 0, locals := 42 }
theorem hd_X9_illKnocks : yX9_illKnocks.cls = RX9 ∧ yX9_illKnocks.cls ≠ "java/lang/invoke/MethodHandle" ∧ yX9_illKnocks.cls ≠ "java/lang/invoke/VarHandle" ∧ (parseMethodDescriptor yX9_illKnocks.desc).map (fun d => d.parameters.length) = some 1 := by decide +kernel
set_option maxHeartbeats 4000000 in
set_option maxRecDepth 100000 in
theorem c_X9_illKnocks (l : Launch) (D : va_G) (g : Nat → ClassId) (b : Nat → Nat) (I : Nat → Int32) (W : Int64) (n p0 t q mm bd : Nat) (a_traced : Nat → Int32) (x0 : Int32) (hn : n ≤ 8) (hp : p0 = 0 ∨ p0 = 25) (ht : t ≤ 240) (hq0 : q ≤ 20) (hmm : mm ≤ 20) (hbd : bd ≤ 30) : Ci l yX9_illKnocks (WW yX9_illKnocks cX9_illKnocks 2 (some FieldType.int)) rmX9_illKnocks D vwCl (TY g) [.ref (b 0), .int x0] [(b 0, .inr (9, [.int (nI n), .ref (b 1), .ref (b 2), .int (nI p0), .ref (b 3), .ref (b 4), .ref (b 5), .ref (b 6), .ref (b 7), .ref (b 8), .int (I 10), .ref (b 9), .int (nI t), .int (I 13), .int (I 14), .int (I 15), .long W, .int (I 17), .int (I 18), .int (I 19), .int (I 20), .ref (b 10), .ref (b 11), .ref (b 12), .ref (b 13), .ref (b 14), .ref (b 15), .int (nI q), .int (nI mm), .ref (b 16), .ref (b 17), .ref (b 18), .ref (b 19), .ref (b 20), .ref (b 21), .int (I 35), .int (I 36), .int (I 37), .ref (b 22), .int (nI bd), .int (I 40), .int (I 41), .ref (b 23), .int (I 43), .ref (b 24)])), (b 22, .inl (g 0, 30, .inl a_traced))] (fun r u => ∃ (bd' : Nat) (a_traced' : Nat → Int32), (bd' ≤ 30) ∧ (((r, (I 40), ((a_traced', bd') : MT)) : Int32 × Int32 × MT) = vRun (rIK (I 36) x0 (I 40)) ((a_traced, bd) : MT)) ∧ u = [(b 0, .inr (9, [.int (nI n), .ref (b 1), .ref (b 2), .int (nI p0), .ref (b 3), .ref (b 4), .ref (b 5), .ref (b 6), .ref (b 7), .ref (b 8), .int (I 10), .ref (b 9), .int (nI t), .int (I 13), .int (I 14), .int (I 15), .long W, .int (I 17), .int (I 18), .int (I 19), .int (I 20), .ref (b 10), .ref (b 11), .ref (b 12), .ref (b 13), .ref (b 14), .ref (b 15), .int (nI q), .int (nI mm), .ref (b 16), .ref (b 17), .ref (b 18), .ref (b 19), .ref (b 20), .ref (b 21), .int (I 35), .int (I 36), .int (I 37), .ref (b 22), .int (nI bd'), .int (I 40), .int (I 41), .ref (b 23), .int (I 43), .ref (b 24)])), (b 22, .inl (g 0, 30, .inl a_traced'))]) := by
  refine ci_in (by decide) (Nat.le_of_ble_eq_true rfl) (a0 := [b 0, b 22]) rfl (fun p e s m args below meth c A Q hQ B hr hsc => ?_)
  refine s_aload_n B dX9_illKnocks_0 rfl 0 rfl ?_
  refine s_bipush B dX9_illKnocks_1 bp_30 ?_
  refine s_callVv B hsc (c_X9_ran l D g b I W n p0 t q mm bd a_traced 30 (by omega) (by omega) (by omega) (by omega) (by omega) (by omega)) (gw_V ml_X9_286 im_yX9_ran se_yX9_ran ini_RX9 co_yX9_ran) hd_X9_ran rfl rfl ⟨(Nat.le_of_ble_eq_true rfl), (Nat.le_of_ble_eq_true rfl)⟩ [0, 1] [0, 1, 2, 3, 4] rfl rfl rfl (ci := 9) (q0 := 0) rfl rfl rfl rfl rfl (Nat.le_of_ble_eq_true rfl) dX9_illKnocks_3 (fun u_2 hpo => ?_)
  obtain ⟨bd_3, a_traced_4, hf_5, hf_6, rfl⟩ := hpo
  refine s_ws (ws' := [(b 0, .inr (9, [.int (nI n), .ref (b 1), .ref (b 2), .int (nI p0), .ref (b 3), .ref (b 4), .ref (b 5), .ref (b 6), .ref (b 7), .ref (b 8), .int (I 10), .ref (b 9), .int (nI t), .int (I 13), .int (I 14), .int (I 15), .long W, .int (I 17), .int (I 18), .int (I 19), .int (I 20), .ref (b 10), .ref (b 11), .ref (b 12), .ref (b 13), .ref (b 14), .ref (b 15), .int (nI q), .int (nI mm), .ref (b 16), .ref (b 17), .ref (b 18), .ref (b 19), .ref (b 20), .ref (b 21), .int (I 35), .int (I 36), .int (I 37), .ref (b 22), .int (nI bd_3), .int (I 40), .int (I 41), .ref (b 23), .int (I 43), .ref (b 24)])), (b 22, .inl (g 0, 30, .inl a_traced_4))]) rfl ?_
  refine s_aload_n B dX9_illKnocks_6 rfl 0 rfl ?_
  refine s_iload_n B dX9_illKnocks_7 rfl 1 rfl ?_
  refine s_callVi B hsc (c_X9_plainKnocks l D g b I W n p0 t q mm bd_3 a_traced_4 x0 (by omega) (by omega) (by omega) (by omega) (by omega) (by omega)) (gw_V ml_X9_292 im_yX9_plainKnocks se_yX9_plainKnocks ini_RX9 co_yX9_plainKnocks) hd_X9_plainKnocks rfl rfl ⟨(Nat.le_of_ble_eq_true rfl), (Nat.le_of_ble_eq_true rfl)⟩ [0, 1] [0, 1, 2, 3, 4] rfl rfl rfl (ci := 9) (q0 := 0) rfl rfl rfl rfl rfl (Nat.le_of_ble_eq_true rfl) dX9_illKnocks_8 (fun r_7 u_8 hpo => ?_)
  obtain ⟨bd_9, a_traced_10, hf_11, hf_12, rfl⟩ := hpo
  refine s_ws (ws' := [(b 0, .inr (9, [.int (nI n), .ref (b 1), .ref (b 2), .int (nI p0), .ref (b 3), .ref (b 4), .ref (b 5), .ref (b 6), .ref (b 7), .ref (b 8), .int (I 10), .ref (b 9), .int (nI t), .int (I 13), .int (I 14), .int (I 15), .long W, .int (I 17), .int (I 18), .int (I 19), .int (I 20), .ref (b 10), .ref (b 11), .ref (b 12), .ref (b 13), .ref (b 14), .ref (b 15), .int (nI q), .int (nI mm), .ref (b 16), .ref (b 17), .ref (b 18), .ref (b 19), .ref (b 20), .ref (b 21), .int (I 35), .int (I 36), .int (I 37), .ref (b 22), .int (nI bd_9), .int (I 40), .int (I 41), .ref (b 23), .int (I 43), .ref (b 24)])), (b 22, .inl (g 0, 30, .inl a_traced_10))]) rfl ?_
  refine s_iconst B dX9_illKnocks_11 ic_3 ?_
  refine s_imul B dX9_illKnocks_12 ?_
  refine s_iret B hQ hr dX9_illKnocks_13 rfl ?_
  exact ⟨bd_9, a_traced_10, by omega, (vRun_pr hf_6 (vRun_map (fun v => v * 3) hf_12)), rfl⟩
def rmX9_knocksIt : Room := { frames := 3, cells := 0, slots := 0, locals := 63 }
theorem hd_X9_knocksIt : yX9_knocksIt.cls = RX9 ∧ yX9_knocksIt.cls ≠ "java/lang/invoke/MethodHandle" ∧ yX9_knocksIt.cls ≠ "java/lang/invoke/VarHandle" ∧ (parseMethodDescriptor yX9_knocksIt.desc).map (fun d => d.parameters.length) = some 1 := by decide +kernel
set_option maxHeartbeats 4000000 in
set_option maxRecDepth 100000 in
theorem c_X9_knocksIt (l : Launch) (D : va_G) (g : Nat → ClassId) (b : Nat → Nat) (I : Nat → Int32) (W : Int64) (n p0 t q mm bd : Nat) (a_traced : Nat → Int32) (x0 : Int32) (hn : n ≤ 8) (hp : p0 = 0 ∨ p0 = 25) (ht : t ≤ 240) (hq0 : q ≤ 20) (hmm : mm ≤ 20) (hbd : bd ≤ 30) : Ci l yX9_knocksIt (WW yX9_knocksIt cX9_knocksIt 2 (some FieldType.int)) rmX9_knocksIt D vwCl (TY g) [.ref (b 0), .int x0] [(b 0, .inr (9, [.int (nI n), .ref (b 1), .ref (b 2), .int (nI p0), .ref (b 3), .ref (b 4), .ref (b 5), .ref (b 6), .ref (b 7), .ref (b 8), .int (I 10), .ref (b 9), .int (nI t), .int (I 13), .int (I 14), .int (I 15), .long W, .int (I 17), .int (I 18), .int (I 19), .int (I 20), .ref (b 10), .ref (b 11), .ref (b 12), .ref (b 13), .ref (b 14), .ref (b 15), .int (nI q), .int (nI mm), .ref (b 16), .ref (b 17), .ref (b 18), .ref (b 19), .ref (b 20), .ref (b 21), .int (I 35), .int (I 36), .int (I 37), .ref (b 22), .int (nI bd), .int (I 40), .int (I 41), .ref (b 23), .int (I 43), .ref (b 24)])), (b 22, .inl (g 0, 30, .inl a_traced))] (fun r u => ∃ (bd' : Nat) (a_traced' : Nat → Int32), (bd' ≤ 30) ∧ (((r, (I 40), ((a_traced', bd') : MT)) : Int32 × Int32 × MT) = vRun (rKn (I 35) (I 36) x0 (I 40)) ((a_traced, bd) : MT)) ∧ u = [(b 0, .inr (9, [.int (nI n), .ref (b 1), .ref (b 2), .int (nI p0), .ref (b 3), .ref (b 4), .ref (b 5), .ref (b 6), .ref (b 7), .ref (b 8), .int (I 10), .ref (b 9), .int (nI t), .int (I 13), .int (I 14), .int (I 15), .long W, .int (I 17), .int (I 18), .int (I 19), .int (I 20), .ref (b 10), .ref (b 11), .ref (b 12), .ref (b 13), .ref (b 14), .ref (b 15), .int (nI q), .int (nI mm), .ref (b 16), .ref (b 17), .ref (b 18), .ref (b 19), .ref (b 20), .ref (b 21), .int (I 35), .int (I 36), .int (I 37), .ref (b 22), .int (nI bd'), .int (I 40), .int (I 41), .ref (b 23), .int (I 43), .ref (b 24)])), (b 22, .inl (g 0, 30, .inl a_traced'))]) := by
  refine ci_in (by decide) (Nat.le_of_ble_eq_true rfl) (a0 := [b 0, b 22]) rfl (fun p e s m args below meth c A Q hQ B hr hsc => ?_)
  refine s_aload_n B dX9_knocksIt_0 rfl 0 rfl ?_
  refine s_get (T := TX9) B inX9 0 rfl rfl 35 (Nat.le_of_ble_eq_true rfl) fl_X9_295 rfl rfl dX9_knocksIt_1 ?_
  by_cases k4_2 : (I 35) = 2
  · refine s_tableIn (off := 32) (tgt := 36) B dX9_knocksIt_4 (by rw [k4_2]; decide) (by rw [k4_2]; decide) (by rw [k4_2]; rfl) rfl ?_
    refine s_aload_n B dX9_knocksIt_36 rfl 0 rfl ?_
    refine s_iload_n B dX9_knocksIt_37 rfl 1 rfl ?_
    refine s_callVi B hsc (c_X9_illKnocks l D g b I W n p0 t q mm bd a_traced x0 (by omega) (by omega) (by omega) (by omega) (by omega) (by omega)) (gw_V ml_X9_298 im_yX9_illKnocks se_yX9_illKnocks ini_RX9 co_yX9_illKnocks) hd_X9_illKnocks rfl rfl ⟨(Nat.le_of_ble_eq_true rfl), (Nat.le_of_ble_eq_true rfl)⟩ [0, 1] [0, 1, 2, 3, 4] rfl rfl rfl (ci := 9) (q0 := 0) rfl rfl rfl rfl rfl (Nat.le_of_ble_eq_true rfl) dX9_knocksIt_38 (fun r_1 u_2 hpo => ?_)
    obtain ⟨bd_3, a_traced_4, hf_5, hf_6, rfl⟩ := hpo
    refine s_ws (ws' := [(b 0, .inr (9, [.int (nI n), .ref (b 1), .ref (b 2), .int (nI p0), .ref (b 3), .ref (b 4), .ref (b 5), .ref (b 6), .ref (b 7), .ref (b 8), .int (I 10), .ref (b 9), .int (nI t), .int (I 13), .int (I 14), .int (I 15), .long W, .int (I 17), .int (I 18), .int (I 19), .int (I 20), .ref (b 10), .ref (b 11), .ref (b 12), .ref (b 13), .ref (b 14), .ref (b 15), .int (nI q), .int (nI mm), .ref (b 16), .ref (b 17), .ref (b 18), .ref (b 19), .ref (b 20), .ref (b 21), .int (I 35), .int (I 36), .int (I 37), .ref (b 22), .int (nI bd_3), .int (I 40), .int (I 41), .ref (b 23), .int (I 43), .ref (b 24)])), (b 22, .inl (g 0, 30, .inl a_traced_4))]) rfl ?_
    refine s_iret B hQ hr dX9_knocksIt_41 rfl ?_
    exact ⟨bd_3, a_traced_4, by omega, (by rw [rKn_2 k4_2]; exact hf_6), rfl⟩
  · by_cases k4_3 : (I 35) = 3
    · refine s_tableIn (off := 69) (tgt := 73) B dX9_knocksIt_4 (by rw [k4_3]; decide) (by rw [k4_3]; decide) (by rw [k4_3]; rfl) rfl ?_
      refine s_aload_n B dX9_knocksIt_73 rfl 0 rfl ?_
      refine s_iload_n B dX9_knocksIt_74 rfl 1 rfl ?_
      refine s_callVi B hsc (c_X9_plainKnocks l D g b I W n p0 t q mm bd a_traced x0 (by omega) (by omega) (by omega) (by omega) (by omega) (by omega)) (gw_V ml_X9_292 im_yX9_plainKnocks se_yX9_plainKnocks ini_RX9 co_yX9_plainKnocks) hd_X9_plainKnocks rfl rfl ⟨(Nat.le_of_ble_eq_true rfl), (Nat.le_of_ble_eq_true rfl)⟩ [0, 1] [0, 1, 2, 3, 4] rfl rfl rfl (ci := 9) (q0 := 0) rfl rfl rfl rfl rfl (Nat.le_of_ble_eq_true rfl) dX9_knocksIt_75 (fun r_7 u_8 hpo => ?_)
      obtain ⟨bd_9, a_traced_10, hf_11, hf_12, rfl⟩ := hpo
      refine s_ws (ws' := [(b 0, .inr (9, [.int (nI n), .ref (b 1), .ref (b 2), .int (nI p0), .ref (b 3), .ref (b 4), .ref (b 5), .ref (b 6), .ref (b 7), .ref (b 8), .int (I 10), .ref (b 9), .int (nI t), .int (I 13), .int (I 14), .int (I 15), .long W, .int (I 17), .int (I 18), .int (I 19), .int (I 20), .ref (b 10), .ref (b 11), .ref (b 12), .ref (b 13), .ref (b 14), .ref (b 15), .int (nI q), .int (nI mm), .ref (b 16), .ref (b 17), .ref (b 18), .ref (b 19), .ref (b 20), .ref (b 21), .int (I 35), .int (I 36), .int (I 37), .ref (b 22), .int (nI bd_9), .int (I 40), .int (I 41), .ref (b 23), .int (I 43), .ref (b 24)])), (b 22, .inl (g 0, 30, .inl a_traced_10))]) rfl ?_
      refine s_iret B hQ hr dX9_knocksIt_78 rfl ?_
      exact ⟨bd_9, a_traced_10, by omega, (by rw [rKn_o (by rw [k4_3]; decide) (by rw [k4_3]; decide) (by rw [k4_3]; decide)]; exact hf_12), rfl⟩
    · by_cases k4_4 : (I 35) = 4
      · refine s_tableIn (off := 52) (tgt := 56) B dX9_knocksIt_4 (by rw [k4_4]; decide) (by rw [k4_4]; decide) (by rw [k4_4]; rfl) rfl ?_
        refine s_aload_n B dX9_knocksIt_56 rfl 0 rfl ?_
        refine s_bipush B dX9_knocksIt_57 bp_51 ?_
        refine s_callVv B hsc (c_X9_ran l D g b I W n p0 t q mm bd a_traced 51 (by omega) (by omega) (by omega) (by omega) (by omega) (by omega)) (gw_V ml_X9_286 im_yX9_ran se_yX9_ran ini_RX9 co_yX9_ran) hd_X9_ran rfl rfl ⟨(Nat.le_of_ble_eq_true rfl), (Nat.le_of_ble_eq_true rfl)⟩ [0, 1] [0, 1, 2, 3, 4] rfl rfl rfl (ci := 9) (q0 := 0) rfl rfl rfl rfl rfl (Nat.le_of_ble_eq_true rfl) dX9_knocksIt_59 (fun u_14 hpo => ?_)
        obtain ⟨bd_15, a_traced_16, hf_17, hf_18, rfl⟩ := hpo
        refine s_ws (ws' := [(b 0, .inr (9, [.int (nI n), .ref (b 1), .ref (b 2), .int (nI p0), .ref (b 3), .ref (b 4), .ref (b 5), .ref (b 6), .ref (b 7), .ref (b 8), .int (I 10), .ref (b 9), .int (nI t), .int (I 13), .int (I 14), .int (I 15), .long W, .int (I 17), .int (I 18), .int (I 19), .int (I 20), .ref (b 10), .ref (b 11), .ref (b 12), .ref (b 13), .ref (b 14), .ref (b 15), .int (nI q), .int (nI mm), .ref (b 16), .ref (b 17), .ref (b 18), .ref (b 19), .ref (b 20), .ref (b 21), .int (I 35), .int (I 36), .int (I 37), .ref (b 22), .int (nI bd_15), .int (I 40), .int (I 41), .ref (b 23), .int (I 43), .ref (b 24)])), (b 22, .inl (g 0, 30, .inl a_traced_16))]) rfl ?_
        refine s_aload_n B dX9_knocksIt_62 rfl 0 rfl ?_
        refine s_iload_n B dX9_knocksIt_63 rfl 1 rfl ?_
        refine s_callVi B hsc (c_X9_plainKnocks l D g b I W n p0 t q mm bd_15 a_traced_16 x0 (by omega) (by omega) (by omega) (by omega) (by omega) (by omega)) (gw_V ml_X9_292 im_yX9_plainKnocks se_yX9_plainKnocks ini_RX9 co_yX9_plainKnocks) hd_X9_plainKnocks rfl rfl ⟨(Nat.le_of_ble_eq_true rfl), (Nat.le_of_ble_eq_true rfl)⟩ [0, 1] [0, 1, 2, 3, 4] rfl rfl rfl (ci := 9) (q0 := 0) rfl rfl rfl rfl rfl (Nat.le_of_ble_eq_true rfl) dX9_knocksIt_64 (fun r_19 u_20 hpo => ?_)
        obtain ⟨bd_21, a_traced_22, hf_23, hf_24, rfl⟩ := hpo
        refine s_ws (ws' := [(b 0, .inr (9, [.int (nI n), .ref (b 1), .ref (b 2), .int (nI p0), .ref (b 3), .ref (b 4), .ref (b 5), .ref (b 6), .ref (b 7), .ref (b 8), .int (I 10), .ref (b 9), .int (nI t), .int (I 13), .int (I 14), .int (I 15), .long W, .int (I 17), .int (I 18), .int (I 19), .int (I 20), .ref (b 10), .ref (b 11), .ref (b 12), .ref (b 13), .ref (b 14), .ref (b 15), .int (nI q), .int (nI mm), .ref (b 16), .ref (b 17), .ref (b 18), .ref (b 19), .ref (b 20), .ref (b 21), .int (I 35), .int (I 36), .int (I 37), .ref (b 22), .int (nI bd_21), .int (I 40), .int (I 41), .ref (b 23), .int (I 43), .ref (b 24)])), (b 22, .inl (g 0, 30, .inl a_traced_22))]) rfl ?_
        refine s_aload_n B dX9_knocksIt_67 rfl 0 rfl ?_
        refine s_get (T := TX9) B inX9 0 rfl rfl 36 (Nat.le_of_ble_eq_true rfl) fl_X9_289 rfl rfl dX9_knocksIt_68 ?_
        refine s_isub B dX9_knocksIt_71 ?_
        refine s_iret B hQ hr dX9_knocksIt_72 rfl ?_
        exact ⟨bd_21, a_traced_22, by omega, (by rw [rKn_4 k4_4]; exact vRun_pr hf_18 (vRun_map (fun v => v - I 36) hf_24)), rfl⟩
      · by_cases k4_5 : (I 35) = 5
        · refine s_tableIn (off := 38) (tgt := 42) B dX9_knocksIt_4 (by rw [k4_5]; decide) (by rw [k4_5]; decide) (by rw [k4_5]; rfl) rfl ?_
          refine s_aload_n B dX9_knocksIt_42 rfl 0 rfl ?_
          refine s_bipush B dX9_knocksIt_43 bp_40 ?_
          refine s_callVv B hsc (c_X9_ran l D g b I W n p0 t q mm bd a_traced 40 (by omega) (by omega) (by omega) (by omega) (by omega) (by omega)) (gw_V ml_X9_286 im_yX9_ran se_yX9_ran ini_RX9 co_yX9_ran) hd_X9_ran rfl rfl ⟨(Nat.le_of_ble_eq_true rfl), (Nat.le_of_ble_eq_true rfl)⟩ [0, 1] [0, 1, 2, 3, 4] rfl rfl rfl (ci := 9) (q0 := 0) rfl rfl rfl rfl rfl (Nat.le_of_ble_eq_true rfl) dX9_knocksIt_45 (fun u_26 hpo => ?_)
          obtain ⟨bd_27, a_traced_28, hf_29, hf_30, rfl⟩ := hpo
          refine s_ws (ws' := [(b 0, .inr (9, [.int (nI n), .ref (b 1), .ref (b 2), .int (nI p0), .ref (b 3), .ref (b 4), .ref (b 5), .ref (b 6), .ref (b 7), .ref (b 8), .int (I 10), .ref (b 9), .int (nI t), .int (I 13), .int (I 14), .int (I 15), .long W, .int (I 17), .int (I 18), .int (I 19), .int (I 20), .ref (b 10), .ref (b 11), .ref (b 12), .ref (b 13), .ref (b 14), .ref (b 15), .int (nI q), .int (nI mm), .ref (b 16), .ref (b 17), .ref (b 18), .ref (b 19), .ref (b 20), .ref (b 21), .int (I 35), .int (I 36), .int (I 37), .ref (b 22), .int (nI bd_27), .int (I 40), .int (I 41), .ref (b 23), .int (I 43), .ref (b 24)])), (b 22, .inl (g 0, 30, .inl a_traced_28))]) rfl ?_
          refine s_iconst B dX9_knocksIt_48 ic_0 ?_
          refine s_aload_n B dX9_knocksIt_49 rfl 0 rfl ?_
          refine s_iload_n B dX9_knocksIt_50 rfl 1 rfl ?_
          refine s_callVi B hsc (c_X9_illKnocks l D g b I W n p0 t q mm bd_27 a_traced_28 x0 (by omega) (by omega) (by omega) (by omega) (by omega) (by omega)) (gw_V ml_X9_298 im_yX9_illKnocks se_yX9_illKnocks ini_RX9 co_yX9_illKnocks) hd_X9_illKnocks rfl rfl ⟨(Nat.le_of_ble_eq_true rfl), (Nat.le_of_ble_eq_true rfl)⟩ [0, 1] [0, 1, 2, 3, 4] rfl rfl rfl (ci := 9) (q0 := 0) rfl rfl rfl rfl rfl (Nat.le_of_ble_eq_true rfl) dX9_knocksIt_51 (fun r_31 u_32 hpo => ?_)
          obtain ⟨bd_33, a_traced_34, hf_35, hf_36, rfl⟩ := hpo
          refine s_ws (ws' := [(b 0, .inr (9, [.int (nI n), .ref (b 1), .ref (b 2), .int (nI p0), .ref (b 3), .ref (b 4), .ref (b 5), .ref (b 6), .ref (b 7), .ref (b 8), .int (I 10), .ref (b 9), .int (nI t), .int (I 13), .int (I 14), .int (I 15), .long W, .int (I 17), .int (I 18), .int (I 19), .int (I 20), .ref (b 10), .ref (b 11), .ref (b 12), .ref (b 13), .ref (b 14), .ref (b 15), .int (nI q), .int (nI mm), .ref (b 16), .ref (b 17), .ref (b 18), .ref (b 19), .ref (b 20), .ref (b 21), .int (I 35), .int (I 36), .int (I 37), .ref (b 22), .int (nI bd_33), .int (I 40), .int (I 41), .ref (b 23), .int (I 43), .ref (b 24)])), (b 22, .inl (g 0, 30, .inl a_traced_34))]) rfl ?_
          refine s_isub B dX9_knocksIt_54 ?_
          refine s_iret B hQ hr dX9_knocksIt_55 rfl ?_
          exact ⟨bd_33, a_traced_34, by omega, (by rw [rKn_5 k4_5]; exact vRun_pr hf_30 (vRun_map (fun v => 0 - v) hf_36)), rfl⟩
        · refine s_tableOut (tgt := 73) B dX9_knocksIt_4 (by have q0 := lv_neT k4_2 (show (2 : Int32).toInt = 2 from by decide); have q1 := lv_neT k4_3 (show (3 : Int32).toInt = 3 from by decide); have q2 := lv_neT k4_4 (show (4 : Int32).toInt = 4 from by decide); have q3 := lv_neT k4_5 (show (5 : Int32).toInt = 5 from by decide); omega) rfl ?_
          refine s_aload_n B dX9_knocksIt_73 rfl 0 rfl ?_
          refine s_iload_n B dX9_knocksIt_74 rfl 1 rfl ?_
          refine s_callVi B hsc (c_X9_plainKnocks l D g b I W n p0 t q mm bd a_traced x0 (by omega) (by omega) (by omega) (by omega) (by omega) (by omega)) (gw_V ml_X9_292 im_yX9_plainKnocks se_yX9_plainKnocks ini_RX9 co_yX9_plainKnocks) hd_X9_plainKnocks rfl rfl ⟨(Nat.le_of_ble_eq_true rfl), (Nat.le_of_ble_eq_true rfl)⟩ [0, 1] [0, 1, 2, 3, 4] rfl rfl rfl (ci := 9) (q0 := 0) rfl rfl rfl rfl rfl (Nat.le_of_ble_eq_true rfl) dX9_knocksIt_75 (fun r_37 u_38 hpo => ?_)
          obtain ⟨bd_39, a_traced_40, hf_41, hf_42, rfl⟩ := hpo
          refine s_ws (ws' := [(b 0, .inr (9, [.int (nI n), .ref (b 1), .ref (b 2), .int (nI p0), .ref (b 3), .ref (b 4), .ref (b 5), .ref (b 6), .ref (b 7), .ref (b 8), .int (I 10), .ref (b 9), .int (nI t), .int (I 13), .int (I 14), .int (I 15), .long W, .int (I 17), .int (I 18), .int (I 19), .int (I 20), .ref (b 10), .ref (b 11), .ref (b 12), .ref (b 13), .ref (b 14), .ref (b 15), .int (nI q), .int (nI mm), .ref (b 16), .ref (b 17), .ref (b 18), .ref (b 19), .ref (b 20), .ref (b 21), .int (I 35), .int (I 36), .int (I 37), .ref (b 22), .int (nI bd_39), .int (I 40), .int (I 41), .ref (b 23), .int (I 43), .ref (b 24)])), (b 22, .inl (g 0, 30, .inl a_traced_40))]) rfl ?_
          refine s_iret B hQ hr dX9_knocksIt_78 rfl ?_
          exact ⟨bd_39, a_traced_40, by omega, (by rw [rKn_o (by assumption) (by assumption) (by assumption)]; exact hf_42), rfl⟩
def rmX9_plainCrosses : Room := { frames := 4, cells := 0, slots := 0, locals := 84 }
theorem hd_X9_plainCrosses : yX9_plainCrosses.cls = RX9 ∧ yX9_plainCrosses.cls ≠ "java/lang/invoke/MethodHandle" ∧ yX9_plainCrosses.cls ≠ "java/lang/invoke/VarHandle" ∧ (parseMethodDescriptor yX9_plainCrosses.desc).map (fun d => d.parameters.length) = some 1 := by decide +kernel
set_option maxHeartbeats 4000000 in
set_option maxRecDepth 100000 in
theorem c_X9_plainCrosses (l : Launch) (D : va_G) (g : Nat → ClassId) (b : Nat → Nat) (I : Nat → Int32) (W : Int64) (n p0 t q mm bd : Nat) (a_traced : Nat → Int32) (x0 : Int32) (hn : n ≤ 8) (hp : p0 = 0 ∨ p0 = 25) (ht : t ≤ 240) (hq0 : q ≤ 20) (hmm : mm ≤ 20) (hbd : bd ≤ 30) : Ci l yX9_plainCrosses (WW yX9_plainCrosses cX9_plainCrosses 2 (some FieldType.int)) rmX9_plainCrosses D vwCl (TY g) [.ref (b 0), .int x0] [(b 0, .inr (9, [.int (nI n), .ref (b 1), .ref (b 2), .int (nI p0), .ref (b 3), .ref (b 4), .ref (b 5), .ref (b 6), .ref (b 7), .ref (b 8), .int (I 10), .ref (b 9), .int (nI t), .int (I 13), .int (I 14), .int (I 15), .long W, .int (I 17), .int (I 18), .int (I 19), .int (I 20), .ref (b 10), .ref (b 11), .ref (b 12), .ref (b 13), .ref (b 14), .ref (b 15), .int (nI q), .int (nI mm), .ref (b 16), .ref (b 17), .ref (b 18), .ref (b 19), .ref (b 20), .ref (b 21), .int (I 35), .int (I 36), .int (I 37), .ref (b 22), .int (nI bd), .int (I 40), .int (I 41), .ref (b 23), .int (I 43), .ref (b 24)])), (b 22, .inl (g 0, 30, .inl a_traced))] (fun r u => ∃ (bd' : Nat) (a_traced' : Nat → Int32), (bd' ≤ 30) ∧ (((r, (I 40), ((a_traced', bd') : MT)) : Int32 × Int32 × MT) = vRun (rPC (I 35) (I 36) x0 (I 40)) ((a_traced, bd) : MT)) ∧ u = [(b 0, .inr (9, [.int (nI n), .ref (b 1), .ref (b 2), .int (nI p0), .ref (b 3), .ref (b 4), .ref (b 5), .ref (b 6), .ref (b 7), .ref (b 8), .int (I 10), .ref (b 9), .int (nI t), .int (I 13), .int (I 14), .int (I 15), .long W, .int (I 17), .int (I 18), .int (I 19), .int (I 20), .ref (b 10), .ref (b 11), .ref (b 12), .ref (b 13), .ref (b 14), .ref (b 15), .int (nI q), .int (nI mm), .ref (b 16), .ref (b 17), .ref (b 18), .ref (b 19), .ref (b 20), .ref (b 21), .int (I 35), .int (I 36), .int (I 37), .ref (b 22), .int (nI bd'), .int (I 40), .int (I 41), .ref (b 23), .int (I 43), .ref (b 24)])), (b 22, .inl (g 0, 30, .inl a_traced'))]) := by
  refine ci_in (by decide) (Nat.le_of_ble_eq_true rfl) (a0 := [b 0, b 22]) rfl (fun p e s m args below meth c A Q hQ B hr hsc => ?_)
  refine s_aload_n B dX9_plainCrosses_0 rfl 0 rfl ?_
  refine s_bipush B dX9_plainCrosses_1 bp_11 ?_
  refine s_callVv B hsc (c_X9_ran l D g b I W n p0 t q mm bd a_traced 11 (by omega) (by omega) (by omega) (by omega) (by omega) (by omega)) (gw_V ml_X9_286 im_yX9_ran se_yX9_ran ini_RX9 co_yX9_ran) hd_X9_ran rfl rfl ⟨(Nat.le_of_ble_eq_true rfl), (Nat.le_of_ble_eq_true rfl)⟩ [0, 1] [0, 1, 2, 3, 4] rfl rfl rfl (ci := 9) (q0 := 0) rfl rfl rfl rfl rfl (Nat.le_of_ble_eq_true rfl) dX9_plainCrosses_3 (fun u_2 hpo => ?_)
  obtain ⟨bd_3, a_traced_4, hf_5, hf_6, rfl⟩ := hpo
  refine s_ws (ws' := [(b 0, .inr (9, [.int (nI n), .ref (b 1), .ref (b 2), .int (nI p0), .ref (b 3), .ref (b 4), .ref (b 5), .ref (b 6), .ref (b 7), .ref (b 8), .int (I 10), .ref (b 9), .int (nI t), .int (I 13), .int (I 14), .int (I 15), .long W, .int (I 17), .int (I 18), .int (I 19), .int (I 20), .ref (b 10), .ref (b 11), .ref (b 12), .ref (b 13), .ref (b 14), .ref (b 15), .int (nI q), .int (nI mm), .ref (b 16), .ref (b 17), .ref (b 18), .ref (b 19), .ref (b 20), .ref (b 21), .int (I 35), .int (I 36), .int (I 37), .ref (b 22), .int (nI bd_3), .int (I 40), .int (I 41), .ref (b 23), .int (I 43), .ref (b 24)])), (b 22, .inl (g 0, 30, .inl a_traced_4))]) rfl ?_
  refine s_aload_n B dX9_plainCrosses_6 rfl 0 rfl ?_
  refine s_iload_n B dX9_plainCrosses_7 rfl 1 rfl ?_
  refine s_callVi B hsc (c_X9_knocksIt l D g b I W n p0 t q mm bd_3 a_traced_4 x0 (by omega) (by omega) (by omega) (by omega) (by omega) (by omega)) (gw_V ml_X9_301 im_yX9_knocksIt se_yX9_knocksIt ini_RX9 co_yX9_knocksIt) hd_X9_knocksIt rfl rfl ⟨(Nat.le_of_ble_eq_true rfl), (Nat.le_of_ble_eq_true rfl)⟩ [0, 1] [0, 1, 2, 3, 4] rfl rfl rfl (ci := 9) (q0 := 0) rfl rfl rfl rfl rfl (Nat.le_of_ble_eq_true rfl) dX9_plainCrosses_8 (fun r_7 u_8 hpo => ?_)
  obtain ⟨bd_9, a_traced_10, hf_11, hf_12, rfl⟩ := hpo
  refine s_ws (ws' := [(b 0, .inr (9, [.int (nI n), .ref (b 1), .ref (b 2), .int (nI p0), .ref (b 3), .ref (b 4), .ref (b 5), .ref (b 6), .ref (b 7), .ref (b 8), .int (I 10), .ref (b 9), .int (nI t), .int (I 13), .int (I 14), .int (I 15), .long W, .int (I 17), .int (I 18), .int (I 19), .int (I 20), .ref (b 10), .ref (b 11), .ref (b 12), .ref (b 13), .ref (b 14), .ref (b 15), .int (nI q), .int (nI mm), .ref (b 16), .ref (b 17), .ref (b 18), .ref (b 19), .ref (b 20), .ref (b 21), .int (I 35), .int (I 36), .int (I 37), .ref (b 22), .int (nI bd_9), .int (I 40), .int (I 41), .ref (b 23), .int (I 43), .ref (b 24)])), (b 22, .inl (g 0, 30, .inl a_traced_10))]) rfl ?_
  refine s_iconst B dX9_plainCrosses_11 ic_2 ?_
  refine s_imul B dX9_plainCrosses_12 ?_
  refine s_iret B hQ hr dX9_plainCrosses_13 rfl ?_
  exact ⟨bd_9, a_traced_10, by omega, (vRun_pr hf_6 (vRun_map (fun v => v * 2) hf_12)), rfl⟩
def rmX9_crossesIt : Room := { frames := 5, cells := 0, slots := 0, locals := 105 }
theorem hd_X9_crossesIt : yX9_crossesIt.cls = RX9 ∧ yX9_crossesIt.cls ≠ "java/lang/invoke/MethodHandle" ∧ yX9_crossesIt.cls ≠ "java/lang/invoke/VarHandle" ∧ (parseMethodDescriptor yX9_crossesIt.desc).map (fun d => d.parameters.length) = some 1 := by decide +kernel
set_option maxHeartbeats 4000000 in
set_option maxRecDepth 100000 in
theorem c_X9_crossesIt (l : Launch) (D : va_G) (g : Nat → ClassId) (b : Nat → Nat) (I : Nat → Int32) (W : Int64) (n p0 t q mm bd : Nat) (a_traced : Nat → Int32) (x0 : Int32) (hn : n ≤ 8) (hp : p0 = 0 ∨ p0 = 25) (ht : t ≤ 240) (hq0 : q ≤ 20) (hmm : mm ≤ 20) (hbd : bd ≤ 30) : Ci l yX9_crossesIt (WW yX9_crossesIt cX9_crossesIt 3 (some FieldType.int)) rmX9_crossesIt D vwCl (TY g) [.ref (b 0), .int x0] [(b 0, .inr (9, [.int (nI n), .ref (b 1), .ref (b 2), .int (nI p0), .ref (b 3), .ref (b 4), .ref (b 5), .ref (b 6), .ref (b 7), .ref (b 8), .int (I 10), .ref (b 9), .int (nI t), .int (I 13), .int (I 14), .int (I 15), .long W, .int (I 17), .int (I 18), .int (I 19), .int (I 20), .ref (b 10), .ref (b 11), .ref (b 12), .ref (b 13), .ref (b 14), .ref (b 15), .int (nI q), .int (nI mm), .ref (b 16), .ref (b 17), .ref (b 18), .ref (b 19), .ref (b 20), .ref (b 21), .int (I 35), .int (I 36), .int (I 37), .ref (b 22), .int (nI bd), .int (I 40), .int (I 41), .ref (b 23), .int (I 43), .ref (b 24)])), (b 22, .inl (g 0, 30, .inl a_traced))] (fun r u => ∃ (bd' : Nat) (a_traced' : Nat → Int32), (bd' ≤ 30) ∧ (((r, (I 40), ((a_traced', bd') : MT)) : Int32 × Int32 × MT) = vRun (rCr (I 35) (I 36) (I 37) x0 (I 40)) ((a_traced, bd) : MT)) ∧ u = [(b 0, .inr (9, [.int (nI n), .ref (b 1), .ref (b 2), .int (nI p0), .ref (b 3), .ref (b 4), .ref (b 5), .ref (b 6), .ref (b 7), .ref (b 8), .int (I 10), .ref (b 9), .int (nI t), .int (I 13), .int (I 14), .int (I 15), .long W, .int (I 17), .int (I 18), .int (I 19), .int (I 20), .ref (b 10), .ref (b 11), .ref (b 12), .ref (b 13), .ref (b 14), .ref (b 15), .int (nI q), .int (nI mm), .ref (b 16), .ref (b 17), .ref (b 18), .ref (b 19), .ref (b 20), .ref (b 21), .int (I 35), .int (I 36), .int (I 37), .ref (b 22), .int (nI bd'), .int (I 40), .int (I 41), .ref (b 23), .int (I 43), .ref (b 24)])), (b 22, .inl (g 0, 30, .inl a_traced'))]) := by
  refine ci_in (by decide) (Nat.le_of_ble_eq_true rfl) (a0 := [b 0, b 22]) rfl (fun p e s m args below meth c A Q hQ B hr hsc => ?_)
  refine s_aload_n B dX9_crossesIt_0 rfl 0 rfl ?_
  refine s_get (T := TX9) B inX9 0 rfl rfl 35 (Nat.le_of_ble_eq_true rfl) fl_X9_295 rfl rfl dX9_crossesIt_1 ?_
  refine s_iconst B dX9_crossesIt_4 ic_1 ?_
  refine s_icmp_eq (tgt := 16) B dX9_crossesIt_5 rfl (fun h5 => ?_) (fun h5 => ?_)
  · refine s_aload_n B dX9_crossesIt_16 rfl 0 rfl ?_
    refine s_bipush B dX9_crossesIt_17 bp_20 ?_
    refine s_callVv B hsc (c_X9_ran l D g b I W n p0 t q mm bd a_traced 20 (by omega) (by omega) (by omega) (by omega) (by omega) (by omega)) (gw_V ml_X9_286 im_yX9_ran se_yX9_ran ini_RX9 co_yX9_ran) hd_X9_ran rfl rfl ⟨(Nat.le_of_ble_eq_true rfl), (Nat.le_of_ble_eq_true rfl)⟩ [0, 1] [0, 1, 2, 3, 4] rfl rfl rfl (ci := 9) (q0 := 0) rfl rfl rfl rfl rfl (Nat.le_of_ble_eq_true rfl) dX9_crossesIt_19 (fun u_2 hpo => ?_)
    obtain ⟨bd_3, a_traced_4, hf_5, hf_6, rfl⟩ := hpo
    refine s_ws (ws' := [(b 0, .inr (9, [.int (nI n), .ref (b 1), .ref (b 2), .int (nI p0), .ref (b 3), .ref (b 4), .ref (b 5), .ref (b 6), .ref (b 7), .ref (b 8), .int (I 10), .ref (b 9), .int (nI t), .int (I 13), .int (I 14), .int (I 15), .long W, .int (I 17), .int (I 18), .int (I 19), .int (I 20), .ref (b 10), .ref (b 11), .ref (b 12), .ref (b 13), .ref (b 14), .ref (b 15), .int (nI q), .int (nI mm), .ref (b 16), .ref (b 17), .ref (b 18), .ref (b 19), .ref (b 20), .ref (b 21), .int (I 35), .int (I 36), .int (I 37), .ref (b 22), .int (nI bd_3), .int (I 40), .int (I 41), .ref (b 23), .int (I 43), .ref (b 24)])), (b 22, .inl (g 0, 30, .inl a_traced_4))]) rfl ?_
    refine s_aload_n B dX9_crossesIt_22 rfl 0 rfl ?_
    refine s_iload_n B dX9_crossesIt_23 rfl 1 rfl ?_
    refine s_callVi B hsc (c_X9_plainCrosses l D g b I W n p0 t q mm bd_3 a_traced_4 x0 (by omega) (by omega) (by omega) (by omega) (by omega) (by omega)) (gw_V ml_X9_304 im_yX9_plainCrosses se_yX9_plainCrosses ini_RX9 co_yX9_plainCrosses) hd_X9_plainCrosses rfl rfl ⟨(Nat.le_of_ble_eq_true rfl), (Nat.le_of_ble_eq_true rfl)⟩ [0, 1] [0, 1, 2, 3, 4] rfl rfl rfl (ci := 9) (q0 := 0) rfl rfl rfl rfl rfl (Nat.le_of_ble_eq_true rfl) dX9_crossesIt_24 (fun r_7 u_8 hpo => ?_)
    obtain ⟨bd_9, a_traced_10, hf_11, hf_12, rfl⟩ := hpo
    refine s_ws (ws' := [(b 0, .inr (9, [.int (nI n), .ref (b 1), .ref (b 2), .int (nI p0), .ref (b 3), .ref (b 4), .ref (b 5), .ref (b 6), .ref (b 7), .ref (b 8), .int (I 10), .ref (b 9), .int (nI t), .int (I 13), .int (I 14), .int (I 15), .long W, .int (I 17), .int (I 18), .int (I 19), .int (I 20), .ref (b 10), .ref (b 11), .ref (b 12), .ref (b 13), .ref (b 14), .ref (b 15), .int (nI q), .int (nI mm), .ref (b 16), .ref (b 17), .ref (b 18), .ref (b 19), .ref (b 20), .ref (b 21), .int (I 35), .int (I 36), .int (I 37), .ref (b 22), .int (nI bd_9), .int (I 40), .int (I 41), .ref (b 23), .int (I 43), .ref (b 24)])), (b 22, .inl (g 0, 30, .inl a_traced_10))]) rfl ?_
    refine s_aload_n B dX9_crossesIt_27 rfl 0 rfl ?_
    refine s_get (T := TX9) B inX9 0 rfl rfl 37 (Nat.le_of_ble_eq_true rfl) fl_X9_307 rfl rfl dX9_crossesIt_28 ?_
    refine s_isub B dX9_crossesIt_31 ?_
    refine s_iret B hQ hr dX9_crossesIt_32 rfl ?_
    exact ⟨bd_9, a_traced_10, by omega, (by rw [rCr_1 (by first | exact Or.inl (by assumption) | exact Or.inr (by assumption))]; exact vRun_pr hf_6 (vRun_map (fun v => v - I 37) hf_12)), rfl⟩
  · refine s_aload_n B dX9_crossesIt_8 rfl 0 rfl ?_
    refine s_get (T := TX9) B inX9 0 rfl rfl 35 (Nat.le_of_ble_eq_true rfl) fl_X9_295 rfl rfl dX9_crossesIt_9 ?_
    refine s_iconst B dX9_crossesIt_12 ic_4 ?_
    refine s_icmp_ne (tgt := 33) B dX9_crossesIt_13 rfl (fun h13 => ?_) (fun h13 => ?_)
    · refine s_aload_n B dX9_crossesIt_33 rfl 0 rfl ?_
      refine s_get (T := TX9) B inX9 0 rfl rfl 35 (Nat.le_of_ble_eq_true rfl) fl_X9_295 rfl rfl dX9_crossesIt_34 ?_
      refine s_iconst B dX9_crossesIt_37 ic_5 ?_
      refine s_icmp_ne (tgt := 64) B dX9_crossesIt_38 rfl (fun h38 => ?_) (fun h38 => ?_)
      · refine s_aload_n B dX9_crossesIt_64 rfl 0 rfl ?_
        refine s_iload_n B dX9_crossesIt_65 rfl 1 rfl ?_
        refine s_callVi B hsc (c_X9_plainCrosses l D g b I W n p0 t q mm bd a_traced x0 (by omega) (by omega) (by omega) (by omega) (by omega) (by omega)) (gw_V ml_X9_304 im_yX9_plainCrosses se_yX9_plainCrosses ini_RX9 co_yX9_plainCrosses) hd_X9_plainCrosses rfl rfl ⟨(Nat.le_of_ble_eq_true rfl), (Nat.le_of_ble_eq_true rfl)⟩ [0, 1] [0, 1, 2, 3, 4] rfl rfl rfl (ci := 9) (q0 := 0) rfl rfl rfl rfl rfl (Nat.le_of_ble_eq_true rfl) dX9_crossesIt_66 (fun r_13 u_14 hpo => ?_)
        obtain ⟨bd_15, a_traced_16, hf_17, hf_18, rfl⟩ := hpo
        refine s_ws (ws' := [(b 0, .inr (9, [.int (nI n), .ref (b 1), .ref (b 2), .int (nI p0), .ref (b 3), .ref (b 4), .ref (b 5), .ref (b 6), .ref (b 7), .ref (b 8), .int (I 10), .ref (b 9), .int (nI t), .int (I 13), .int (I 14), .int (I 15), .long W, .int (I 17), .int (I 18), .int (I 19), .int (I 20), .ref (b 10), .ref (b 11), .ref (b 12), .ref (b 13), .ref (b 14), .ref (b 15), .int (nI q), .int (nI mm), .ref (b 16), .ref (b 17), .ref (b 18), .ref (b 19), .ref (b 20), .ref (b 21), .int (I 35), .int (I 36), .int (I 37), .ref (b 22), .int (nI bd_15), .int (I 40), .int (I 41), .ref (b 23), .int (I 43), .ref (b 24)])), (b 22, .inl (g 0, 30, .inl a_traced_16))]) rfl ?_
        refine s_iret B hQ hr dX9_crossesIt_69 rfl ?_
        exact ⟨bd_15, a_traced_16, by omega, (by rw [rCr_o (by assumption) (by assumption) (by assumption)]; exact hf_18), rfl⟩
      · refine s_aload_n B dX9_crossesIt_41 rfl 0 rfl ?_
        refine s_bipush B dX9_crossesIt_42 bp_41 ?_
        refine s_callVv B hsc (c_X9_ran l D g b I W n p0 t q mm bd a_traced 41 (by omega) (by omega) (by omega) (by omega) (by omega) (by omega)) (gw_V ml_X9_286 im_yX9_ran se_yX9_ran ini_RX9 co_yX9_ran) hd_X9_ran rfl rfl ⟨(Nat.le_of_ble_eq_true rfl), (Nat.le_of_ble_eq_true rfl)⟩ [0, 1] [0, 1, 2, 3, 4] rfl rfl rfl (ci := 9) (q0 := 0) rfl rfl rfl rfl rfl (Nat.le_of_ble_eq_true rfl) dX9_crossesIt_44 (fun u_20 hpo => ?_)
        obtain ⟨bd_21, a_traced_22, hf_23, hf_24, rfl⟩ := hpo
        refine s_ws (ws' := [(b 0, .inr (9, [.int (nI n), .ref (b 1), .ref (b 2), .int (nI p0), .ref (b 3), .ref (b 4), .ref (b 5), .ref (b 6), .ref (b 7), .ref (b 8), .int (I 10), .ref (b 9), .int (nI t), .int (I 13), .int (I 14), .int (I 15), .long W, .int (I 17), .int (I 18), .int (I 19), .int (I 20), .ref (b 10), .ref (b 11), .ref (b 12), .ref (b 13), .ref (b 14), .ref (b 15), .int (nI q), .int (nI mm), .ref (b 16), .ref (b 17), .ref (b 18), .ref (b 19), .ref (b 20), .ref (b 21), .int (I 35), .int (I 36), .int (I 37), .ref (b 22), .int (nI bd_21), .int (I 40), .int (I 41), .ref (b 23), .int (I 43), .ref (b 24)])), (b 22, .inl (g 0, 30, .inl a_traced_22))]) rfl ?_
        refine s_aload_n B dX9_crossesIt_47 rfl 0 rfl ?_
        refine s_iload_n B dX9_crossesIt_48 rfl 1 rfl ?_
        refine s_callVi B hsc (c_X9_plainCrosses l D g b I W n p0 t q mm bd_21 a_traced_22 x0 (by omega) (by omega) (by omega) (by omega) (by omega) (by omega)) (gw_V ml_X9_304 im_yX9_plainCrosses se_yX9_plainCrosses ini_RX9 co_yX9_plainCrosses) hd_X9_plainCrosses rfl rfl ⟨(Nat.le_of_ble_eq_true rfl), (Nat.le_of_ble_eq_true rfl)⟩ [0, 1] [0, 1, 2, 3, 4] rfl rfl rfl (ci := 9) (q0 := 0) rfl rfl rfl rfl rfl (Nat.le_of_ble_eq_true rfl) dX9_crossesIt_49 (fun r_25 u_26 hpo => ?_)
        obtain ⟨bd_27, a_traced_28, hf_29, hf_30, rfl⟩ := hpo
        refine s_ws (ws' := [(b 0, .inr (9, [.int (nI n), .ref (b 1), .ref (b 2), .int (nI p0), .ref (b 3), .ref (b 4), .ref (b 5), .ref (b 6), .ref (b 7), .ref (b 8), .int (I 10), .ref (b 9), .int (nI t), .int (I 13), .int (I 14), .int (I 15), .long W, .int (I 17), .int (I 18), .int (I 19), .int (I 20), .ref (b 10), .ref (b 11), .ref (b 12), .ref (b 13), .ref (b 14), .ref (b 15), .int (nI q), .int (nI mm), .ref (b 16), .ref (b 17), .ref (b 18), .ref (b 19), .ref (b 20), .ref (b 21), .int (I 35), .int (I 36), .int (I 37), .ref (b 22), .int (nI bd_27), .int (I 40), .int (I 41), .ref (b 23), .int (I 43), .ref (b 24)])), (b 22, .inl (g 0, 30, .inl a_traced_28))]) rfl ?_
        refine s_istore_n (lv' := [(2, _), (0, _), (1, _)]) B dX9_crossesIt_52 rfl (Nat.le_of_ble_eq_true rfl) rfl ?_
        refine s_iload_n B dX9_crossesIt_53 rfl 0 rfl ?_
        refine s_aload_n B dX9_crossesIt_54 rfl 1 rfl ?_
        refine s_aload_n B dX9_crossesIt_55 rfl 1 rfl ?_
        refine s_get (T := TX9) B inX9 0 rfl rfl 36 (Nat.le_of_ble_eq_true rfl) fl_X9_289 rfl rfl dX9_crossesIt_56 ?_
        refine s_callVi B hsc (c_X9_knocksIt l D g b I W n p0 t q mm bd_27 a_traced_28 (I 36) (by omega) (by omega) (by omega) (by omega) (by omega) (by omega)) (gw_V ml_X9_301 im_yX9_knocksIt se_yX9_knocksIt ini_RX9 co_yX9_knocksIt) hd_X9_knocksIt rfl rfl ⟨(Nat.le_of_ble_eq_true rfl), (Nat.le_of_ble_eq_true rfl)⟩ [0, 1] [0, 1, 2, 3, 4] rfl rfl rfl (ci := 9) (q0 := 0) rfl rfl rfl rfl rfl (Nat.le_of_ble_eq_true rfl) dX9_crossesIt_59 (fun r_31 u_32 hpo => ?_)
        obtain ⟨bd_33, a_traced_34, hf_35, hf_36, rfl⟩ := hpo
        refine s_ws (ws' := [(b 0, .inr (9, [.int (nI n), .ref (b 1), .ref (b 2), .int (nI p0), .ref (b 3), .ref (b 4), .ref (b 5), .ref (b 6), .ref (b 7), .ref (b 8), .int (I 10), .ref (b 9), .int (nI t), .int (I 13), .int (I 14), .int (I 15), .long W, .int (I 17), .int (I 18), .int (I 19), .int (I 20), .ref (b 10), .ref (b 11), .ref (b 12), .ref (b 13), .ref (b 14), .ref (b 15), .int (nI q), .int (nI mm), .ref (b 16), .ref (b 17), .ref (b 18), .ref (b 19), .ref (b 20), .ref (b 21), .int (I 35), .int (I 36), .int (I 37), .ref (b 22), .int (nI bd_33), .int (I 40), .int (I 41), .ref (b 23), .int (I 43), .ref (b 24)])), (b 22, .inl (g 0, 30, .inl a_traced_34))]) rfl ?_
        refine s_iadd B dX9_crossesIt_62 ?_
        refine s_iret B hQ hr dX9_crossesIt_63 rfl ?_
        exact ⟨bd_33, a_traced_34, by omega, (by rw [rCr_5 (by assumption)]; exact vRun_pr hf_24 (vRun_add (f := fun p => rKn (I 35) (I 36) (I 36) p) hf_30 hf_36)), rfl⟩
    · refine s_aload_n B dX9_crossesIt_16 rfl 0 rfl ?_
      refine s_bipush B dX9_crossesIt_17 bp_20 ?_
      refine s_callVv B hsc (c_X9_ran l D g b I W n p0 t q mm bd a_traced 20 (by omega) (by omega) (by omega) (by omega) (by omega) (by omega)) (gw_V ml_X9_286 im_yX9_ran se_yX9_ran ini_RX9 co_yX9_ran) hd_X9_ran rfl rfl ⟨(Nat.le_of_ble_eq_true rfl), (Nat.le_of_ble_eq_true rfl)⟩ [0, 1] [0, 1, 2, 3, 4] rfl rfl rfl (ci := 9) (q0 := 0) rfl rfl rfl rfl rfl (Nat.le_of_ble_eq_true rfl) dX9_crossesIt_19 (fun u_38 hpo => ?_)
      obtain ⟨bd_39, a_traced_40, hf_41, hf_42, rfl⟩ := hpo
      refine s_ws (ws' := [(b 0, .inr (9, [.int (nI n), .ref (b 1), .ref (b 2), .int (nI p0), .ref (b 3), .ref (b 4), .ref (b 5), .ref (b 6), .ref (b 7), .ref (b 8), .int (I 10), .ref (b 9), .int (nI t), .int (I 13), .int (I 14), .int (I 15), .long W, .int (I 17), .int (I 18), .int (I 19), .int (I 20), .ref (b 10), .ref (b 11), .ref (b 12), .ref (b 13), .ref (b 14), .ref (b 15), .int (nI q), .int (nI mm), .ref (b 16), .ref (b 17), .ref (b 18), .ref (b 19), .ref (b 20), .ref (b 21), .int (I 35), .int (I 36), .int (I 37), .ref (b 22), .int (nI bd_39), .int (I 40), .int (I 41), .ref (b 23), .int (I 43), .ref (b 24)])), (b 22, .inl (g 0, 30, .inl a_traced_40))]) rfl ?_
      refine s_aload_n B dX9_crossesIt_22 rfl 0 rfl ?_
      refine s_iload_n B dX9_crossesIt_23 rfl 1 rfl ?_
      refine s_callVi B hsc (c_X9_plainCrosses l D g b I W n p0 t q mm bd_39 a_traced_40 x0 (by omega) (by omega) (by omega) (by omega) (by omega) (by omega)) (gw_V ml_X9_304 im_yX9_plainCrosses se_yX9_plainCrosses ini_RX9 co_yX9_plainCrosses) hd_X9_plainCrosses rfl rfl ⟨(Nat.le_of_ble_eq_true rfl), (Nat.le_of_ble_eq_true rfl)⟩ [0, 1] [0, 1, 2, 3, 4] rfl rfl rfl (ci := 9) (q0 := 0) rfl rfl rfl rfl rfl (Nat.le_of_ble_eq_true rfl) dX9_crossesIt_24 (fun r_43 u_44 hpo => ?_)
      obtain ⟨bd_45, a_traced_46, hf_47, hf_48, rfl⟩ := hpo
      refine s_ws (ws' := [(b 0, .inr (9, [.int (nI n), .ref (b 1), .ref (b 2), .int (nI p0), .ref (b 3), .ref (b 4), .ref (b 5), .ref (b 6), .ref (b 7), .ref (b 8), .int (I 10), .ref (b 9), .int (nI t), .int (I 13), .int (I 14), .int (I 15), .long W, .int (I 17), .int (I 18), .int (I 19), .int (I 20), .ref (b 10), .ref (b 11), .ref (b 12), .ref (b 13), .ref (b 14), .ref (b 15), .int (nI q), .int (nI mm), .ref (b 16), .ref (b 17), .ref (b 18), .ref (b 19), .ref (b 20), .ref (b 21), .int (I 35), .int (I 36), .int (I 37), .ref (b 22), .int (nI bd_45), .int (I 40), .int (I 41), .ref (b 23), .int (I 43), .ref (b 24)])), (b 22, .inl (g 0, 30, .inl a_traced_46))]) rfl ?_
      refine s_aload_n B dX9_crossesIt_27 rfl 0 rfl ?_
      refine s_get (T := TX9) B inX9 0 rfl rfl 37 (Nat.le_of_ble_eq_true rfl) fl_X9_307 rfl rfl dX9_crossesIt_28 ?_
      refine s_isub B dX9_crossesIt_31 ?_
      refine s_iret B hQ hr dX9_crossesIt_32 rfl ?_
      exact ⟨bd_45, a_traced_46, by omega, (by rw [rCr_1 (by first | exact Or.inl (by assumption) | exact Or.inr (by assumption))]; exact vRun_pr hf_42 (vRun_map (fun v => v - I 37) hf_48)), rfl⟩
def rmX9_plainShares : Room := { frames := 1, cells := 0, slots := 0, locals := 21 }
theorem hd_X9_plainShares : yX9_plainShares.cls = RX9 ∧ yX9_plainShares.cls ≠ "java/lang/invoke/MethodHandle" ∧ yX9_plainShares.cls ≠ "java/lang/invoke/VarHandle" ∧ (parseMethodDescriptor yX9_plainShares.desc).map (fun d => d.parameters.length) = some 1 := by decide +kernel
set_option maxHeartbeats 4000000 in
set_option maxRecDepth 100000 in
theorem c_X9_plainShares (l : Launch) (D : va_G) (g : Nat → ClassId) (b : Nat → Nat) (I : Nat → Int32) (W : Int64) (n p0 t q mm bd : Nat) (a_traced : Nat → Int32) (x0 : Int32) (hn : n ≤ 8) (hp : p0 = 0 ∨ p0 = 25) (ht : t ≤ 240) (hq0 : q ≤ 20) (hmm : mm ≤ 20) (hbd : bd ≤ 30) : Ci l yX9_plainShares (WW yX9_plainShares cX9_plainShares 2 (some FieldType.int)) rmX9_plainShares D vwCl (TY g) [.ref (b 0), .int x0] [(b 0, .inr (9, [.int (nI n), .ref (b 1), .ref (b 2), .int (nI p0), .ref (b 3), .ref (b 4), .ref (b 5), .ref (b 6), .ref (b 7), .ref (b 8), .int (I 10), .ref (b 9), .int (nI t), .int (I 13), .int (I 14), .int (I 15), .long W, .int (I 17), .int (I 18), .int (I 19), .int (I 20), .ref (b 10), .ref (b 11), .ref (b 12), .ref (b 13), .ref (b 14), .ref (b 15), .int (nI q), .int (nI mm), .ref (b 16), .ref (b 17), .ref (b 18), .ref (b 19), .ref (b 20), .ref (b 21), .int (I 35), .int (I 36), .int (I 37), .ref (b 22), .int (nI bd), .int (I 40), .int (I 41), .ref (b 23), .int (I 43), .ref (b 24)])), (b 22, .inl (g 0, 30, .inl a_traced))] (fun r u => ∃ (bd' : Nat) (a_traced' : Nat → Int32) (isParted' : Int32), (bd' ≤ 30) ∧ (((r, isParted', ((a_traced', bd') : MT)) : Int32 × Int32 × MT) = vRun (rPS (I 36) (I 37) x0 (I 40)) ((a_traced, bd) : MT)) ∧ u = [(b 0, .inr (9, [.int (nI n), .ref (b 1), .ref (b 2), .int (nI p0), .ref (b 3), .ref (b 4), .ref (b 5), .ref (b 6), .ref (b 7), .ref (b 8), .int (I 10), .ref (b 9), .int (nI t), .int (I 13), .int (I 14), .int (I 15), .long W, .int (I 17), .int (I 18), .int (I 19), .int (I 20), .ref (b 10), .ref (b 11), .ref (b 12), .ref (b 13), .ref (b 14), .ref (b 15), .int (nI q), .int (nI mm), .ref (b 16), .ref (b 17), .ref (b 18), .ref (b 19), .ref (b 20), .ref (b 21), .int (I 35), .int (I 36), .int (I 37), .ref (b 22), .int (nI bd'), .int isParted', .int (I 41), .ref (b 23), .int (I 43), .ref (b 24)])), (b 22, .inl (g 0, 30, .inl a_traced'))]) := by
  refine ci_in (by decide) (Nat.le_of_ble_eq_true rfl) (a0 := [b 0, b 22]) rfl (fun p e s m args below meth c A Q hQ B hr hsc => ?_)
  refine s_aload_n B dX9_plainShares_0 rfl 0 rfl ?_
  refine s_bipush B dX9_plainShares_1 bp_12 ?_
  refine s_callVv B hsc (c_X9_ran l D g b I W n p0 t q mm bd a_traced 12 (by omega) (by omega) (by omega) (by omega) (by omega) (by omega)) (gw_V ml_X9_286 im_yX9_ran se_yX9_ran ini_RX9 co_yX9_ran) hd_X9_ran rfl rfl ⟨(Nat.le_of_ble_eq_true rfl), (Nat.le_of_ble_eq_true rfl)⟩ [0, 1] [0, 1, 2, 3, 4] rfl rfl rfl (ci := 9) (q0 := 0) rfl rfl rfl rfl rfl (Nat.le_of_ble_eq_true rfl) dX9_plainShares_3 (fun u_2 hpo => ?_)
  obtain ⟨bd_3, a_traced_4, hf_5, hf_6, rfl⟩ := hpo
  refine s_ws (ws' := [(b 0, .inr (9, [.int (nI n), .ref (b 1), .ref (b 2), .int (nI p0), .ref (b 3), .ref (b 4), .ref (b 5), .ref (b 6), .ref (b 7), .ref (b 8), .int (I 10), .ref (b 9), .int (nI t), .int (I 13), .int (I 14), .int (I 15), .long W, .int (I 17), .int (I 18), .int (I 19), .int (I 20), .ref (b 10), .ref (b 11), .ref (b 12), .ref (b 13), .ref (b 14), .ref (b 15), .int (nI q), .int (nI mm), .ref (b 16), .ref (b 17), .ref (b 18), .ref (b 19), .ref (b 20), .ref (b 21), .int (I 35), .int (I 36), .int (I 37), .ref (b 22), .int (nI bd_3), .int (I 40), .int (I 41), .ref (b 23), .int (I 43), .ref (b 24)])), (b 22, .inl (g 0, 30, .inl a_traced_4))]) rfl ?_
  refine s_aload_n B dX9_plainShares_6 rfl 0 rfl ?_
  refine s_get (T := TX9) B inX9 0 rfl rfl 37 (Nat.le_of_ble_eq_true rfl) fl_X9_307 rfl rfl dX9_plainShares_7 ?_
  refine s_aload_n B dX9_plainShares_10 rfl 0 rfl ?_
  refine s_get (T := TX9) B inX9 0 rfl rfl 36 (Nat.le_of_ble_eq_true rfl) fl_X9_289 rfl rfl dX9_plainShares_11 ?_
  refine s_icmp_ne (tgt := 24) B dX9_plainShares_14 rfl (fun h14 => ?_) (fun h14 => ?_)
  · refine s_iload_n B dX9_plainShares_24 rfl 1 rfl ?_
    refine s_aload_n B dX9_plainShares_25 rfl 0 rfl ?_
    refine s_get (T := TX9) B inX9 0 rfl rfl 37 (Nat.le_of_ble_eq_true rfl) fl_X9_307 rfl rfl dX9_plainShares_26 ?_
    refine s_aload_n B dX9_plainShares_29 rfl 0 rfl ?_
    refine s_get (T := TX9) B inX9 0 rfl rfl 36 (Nat.le_of_ble_eq_true rfl) fl_X9_289 rfl rfl dX9_plainShares_30 ?_
    refine s_isub B dX9_plainShares_33 ?_
    refine s_idiv B dX9_plainShares_34 (sub_nz h14) ?_
    refine s_iret B hQ hr dX9_plainShares_35 rfl ?_
    exact ⟨bd_3, a_traced_4, (I 40), by omega, (by rw [rPS_n h14]; exact vRun_pr hf_6 rfl), rfl⟩
  · refine s_aload_n B dX9_plainShares_17 rfl 0 rfl ?_
    refine s_iconst B dX9_plainShares_18 ic_1 ?_
    refine s_put (T := TX9) (ws' := [_, _]) B inX9 tyX9_ok nmX9 0 rfl rfl 40 (Nat.le_of_ble_eq_true rfl) fl_X9_310 rfl rfl (by first | rfl | decide) rfl (Nat.le_of_ble_eq_true rfl) rfl dX9_plainShares_19 ?_
    refine s_iconst B dX9_plainShares_22 ic_0 ?_
    refine s_iret B hQ hr dX9_plainShares_23 rfl ?_
    exact ⟨bd_3, a_traced_4, 1, by omega, (by rw [rPS_y h14]; exact vRun_pr hf_6 rfl), rfl⟩
def rmX9_sharesIt : Room := { frames := 4, cells := 0, slots := 0, locals := 84 }
theorem hd_X9_sharesIt : yX9_sharesIt.cls = RX9 ∧ yX9_sharesIt.cls ≠ "java/lang/invoke/MethodHandle" ∧ yX9_sharesIt.cls ≠ "java/lang/invoke/VarHandle" ∧ (parseMethodDescriptor yX9_sharesIt.desc).map (fun d => d.parameters.length) = some 1 := by decide +kernel
set_option maxHeartbeats 4000000 in
set_option maxRecDepth 100000 in
theorem c_X9_sharesIt (l : Launch) (D : va_G) (g : Nat → ClassId) (b : Nat → Nat) (I : Nat → Int32) (W : Int64) (n p0 t q mm bd : Nat) (a_traced : Nat → Int32) (x0 : Int32) (hn : n ≤ 8) (hp : p0 = 0 ∨ p0 = 25) (ht : t ≤ 240) (hq0 : q ≤ 20) (hmm : mm ≤ 20) (hbd : bd ≤ 30) : Ci l yX9_sharesIt (WW yX9_sharesIt cX9_sharesIt 3 (some FieldType.int)) rmX9_sharesIt D vwCl (TY g) [.ref (b 0), .int x0] [(b 0, .inr (9, [.int (nI n), .ref (b 1), .ref (b 2), .int (nI p0), .ref (b 3), .ref (b 4), .ref (b 5), .ref (b 6), .ref (b 7), .ref (b 8), .int (I 10), .ref (b 9), .int (nI t), .int (I 13), .int (I 14), .int (I 15), .long W, .int (I 17), .int (I 18), .int (I 19), .int (I 20), .ref (b 10), .ref (b 11), .ref (b 12), .ref (b 13), .ref (b 14), .ref (b 15), .int (nI q), .int (nI mm), .ref (b 16), .ref (b 17), .ref (b 18), .ref (b 19), .ref (b 20), .ref (b 21), .int (I 35), .int (I 36), .int (I 37), .ref (b 22), .int (nI bd), .int (I 40), .int (I 41), .ref (b 23), .int (I 43), .ref (b 24)])), (b 22, .inl (g 0, 30, .inl a_traced))] (fun r u => ∃ (bd' : Nat) (a_traced' : Nat → Int32) (isParted' : Int32), (bd' ≤ 30) ∧ (((r, isParted', ((a_traced', bd') : MT)) : Int32 × Int32 × MT) = vRun (rSh (I 35) (I 36) (I 37) x0 (I 40)) ((a_traced, bd) : MT)) ∧ u = [(b 0, .inr (9, [.int (nI n), .ref (b 1), .ref (b 2), .int (nI p0), .ref (b 3), .ref (b 4), .ref (b 5), .ref (b 6), .ref (b 7), .ref (b 8), .int (I 10), .ref (b 9), .int (nI t), .int (I 13), .int (I 14), .int (I 15), .long W, .int (I 17), .int (I 18), .int (I 19), .int (I 20), .ref (b 10), .ref (b 11), .ref (b 12), .ref (b 13), .ref (b 14), .ref (b 15), .int (nI q), .int (nI mm), .ref (b 16), .ref (b 17), .ref (b 18), .ref (b 19), .ref (b 20), .ref (b 21), .int (I 35), .int (I 36), .int (I 37), .ref (b 22), .int (nI bd'), .int isParted', .int (I 41), .ref (b 23), .int (I 43), .ref (b 24)])), (b 22, .inl (g 0, 30, .inl a_traced'))]) := by
  refine ci_in (by decide) (Nat.le_of_ble_eq_true rfl) (a0 := [b 0, b 22]) rfl (fun p e s m args below meth c A Q hQ B hr hsc => ?_)
  refine s_aload_n B dX9_sharesIt_0 rfl 0 rfl ?_
  refine s_get (T := TX9) B inX9 0 rfl rfl 35 (Nat.le_of_ble_eq_true rfl) fl_X9_295 rfl rfl dX9_sharesIt_1 ?_
  refine s_iconst B dX9_sharesIt_4 ic_4 ?_
  refine s_icmp_ne (tgt := 24) B dX9_sharesIt_5 rfl (fun h5 => ?_) (fun h5 => ?_)
  · refine s_aload_n B dX9_sharesIt_24 rfl 0 rfl ?_
    refine s_get (T := TX9) B inX9 0 rfl rfl 35 (Nat.le_of_ble_eq_true rfl) fl_X9_295 rfl rfl dX9_sharesIt_25 ?_
    refine s_iconst B dX9_sharesIt_28 ic_3 ?_
    refine s_icmp_ne (tgt := 66) B dX9_sharesIt_29 rfl (fun h29 => ?_) (fun h29 => ?_)
    · refine s_aload_n B dX9_sharesIt_66 rfl 0 rfl ?_
      refine s_iload_n B dX9_sharesIt_67 rfl 1 rfl ?_
      refine s_callVi B hsc (c_X9_plainShares l D g b I W n p0 t q mm bd a_traced x0 (by omega) (by omega) (by omega) (by omega) (by omega) (by omega)) (gw_V ml_X9_313 im_yX9_plainShares se_yX9_plainShares ini_RX9 co_yX9_plainShares) hd_X9_plainShares rfl rfl ⟨(Nat.le_of_ble_eq_true rfl), (Nat.le_of_ble_eq_true rfl)⟩ [0, 1] [0, 1, 2, 3, 4] rfl rfl rfl (ci := 9) (q0 := 0) rfl rfl rfl rfl rfl (Nat.le_of_ble_eq_true rfl) dX9_sharesIt_68 (fun r_1 u_2 hpo => ?_)
      obtain ⟨bd_3, a_traced_4, v_5, hf_6, hf_7, rfl⟩ := hpo
      refine s_ws (ws' := [(b 0, .inr (9, [.int (nI n), .ref (b 1), .ref (b 2), .int (nI p0), .ref (b 3), .ref (b 4), .ref (b 5), .ref (b 6), .ref (b 7), .ref (b 8), .int (I 10), .ref (b 9), .int (nI t), .int (I 13), .int (I 14), .int (I 15), .long W, .int (I 17), .int (I 18), .int (I 19), .int (I 20), .ref (b 10), .ref (b 11), .ref (b 12), .ref (b 13), .ref (b 14), .ref (b 15), .int (nI q), .int (nI mm), .ref (b 16), .ref (b 17), .ref (b 18), .ref (b 19), .ref (b 20), .ref (b 21), .int (I 35), .int (I 36), .int (I 37), .ref (b 22), .int (nI bd_3), .int v_5, .int (I 41), .ref (b 23), .int (I 43), .ref (b 24)])), (b 22, .inl (g 0, 30, .inl a_traced_4))]) rfl ?_
      refine s_iret B hQ hr dX9_sharesIt_71 rfl ?_
      exact ⟨bd_3, a_traced_4, v_5, by omega, (by rw [rSh_o h5 h29]; exact hf_7), rfl⟩
    · refine s_aload_n B dX9_sharesIt_32 rfl 0 rfl ?_
      refine s_bipush B dX9_sharesIt_33 bp_61 ?_
      refine s_callVv B hsc (c_X9_ran l D g b I W n p0 t q mm bd a_traced 61 (by omega) (by omega) (by omega) (by omega) (by omega) (by omega)) (gw_V ml_X9_286 im_yX9_ran se_yX9_ran ini_RX9 co_yX9_ran) hd_X9_ran rfl rfl ⟨(Nat.le_of_ble_eq_true rfl), (Nat.le_of_ble_eq_true rfl)⟩ [0, 1] [0, 1, 2, 3, 4] rfl rfl rfl (ci := 9) (q0 := 0) rfl rfl rfl rfl rfl (Nat.le_of_ble_eq_true rfl) dX9_sharesIt_35 (fun u_9 hpo => ?_)
      obtain ⟨bd_10, a_traced_11, hf_12, hf_13, rfl⟩ := hpo
      refine s_ws (ws' := [(b 0, .inr (9, [.int (nI n), .ref (b 1), .ref (b 2), .int (nI p0), .ref (b 3), .ref (b 4), .ref (b 5), .ref (b 6), .ref (b 7), .ref (b 8), .int (I 10), .ref (b 9), .int (nI t), .int (I 13), .int (I 14), .int (I 15), .long W, .int (I 17), .int (I 18), .int (I 19), .int (I 20), .ref (b 10), .ref (b 11), .ref (b 12), .ref (b 13), .ref (b 14), .ref (b 15), .int (nI q), .int (nI mm), .ref (b 16), .ref (b 17), .ref (b 18), .ref (b 19), .ref (b 20), .ref (b 21), .int (I 35), .int (I 36), .int (I 37), .ref (b 22), .int (nI bd_10), .int (I 40), .int (I 41), .ref (b 23), .int (I 43), .ref (b 24)])), (b 22, .inl (g 0, 30, .inl a_traced_11))]) rfl ?_
      refine s_aload_n B dX9_sharesIt_38 rfl 0 rfl ?_
      refine s_iload_n B dX9_sharesIt_39 rfl 1 rfl ?_
      refine s_callVi B hsc (c_X9_plainShares l D g b I W n p0 t q mm bd_10 a_traced_11 x0 (by omega) (by omega) (by omega) (by omega) (by omega) (by omega)) (gw_V ml_X9_313 im_yX9_plainShares se_yX9_plainShares ini_RX9 co_yX9_plainShares) hd_X9_plainShares rfl rfl ⟨(Nat.le_of_ble_eq_true rfl), (Nat.le_of_ble_eq_true rfl)⟩ [0, 1] [0, 1, 2, 3, 4] rfl rfl rfl (ci := 9) (q0 := 0) rfl rfl rfl rfl rfl (Nat.le_of_ble_eq_true rfl) dX9_sharesIt_40 (fun r_14 u_15 hpo => ?_)
      obtain ⟨bd_16, a_traced_17, v_18, hf_19, hf_20, rfl⟩ := hpo
      refine s_ws (ws' := [(b 0, .inr (9, [.int (nI n), .ref (b 1), .ref (b 2), .int (nI p0), .ref (b 3), .ref (b 4), .ref (b 5), .ref (b 6), .ref (b 7), .ref (b 8), .int (I 10), .ref (b 9), .int (nI t), .int (I 13), .int (I 14), .int (I 15), .long W, .int (I 17), .int (I 18), .int (I 19), .int (I 20), .ref (b 10), .ref (b 11), .ref (b 12), .ref (b 13), .ref (b 14), .ref (b 15), .int (nI q), .int (nI mm), .ref (b 16), .ref (b 17), .ref (b 18), .ref (b 19), .ref (b 20), .ref (b 21), .int (I 35), .int (I 36), .int (I 37), .ref (b 22), .int (nI bd_16), .int v_18, .int (I 41), .ref (b 23), .int (I 43), .ref (b 24)])), (b 22, .inl (g 0, 30, .inl a_traced_17))]) rfl ?_
      refine s_istore_n (lv' := [(2, _), (0, _), (1, _)]) B dX9_sharesIt_43 rfl (Nat.le_of_ble_eq_true rfl) rfl ?_
      refine s_aload_n B dX9_sharesIt_44 rfl 1 rfl ?_
      refine s_get (T := TX9) B inX9 0 rfl rfl 40 (Nat.le_of_ble_eq_true rfl) fl_X9_310 rfl rfl dX9_sharesIt_45 ?_
      refine s_if_eq (tgt := 55) B dX9_sharesIt_48 rfl (fun h48 => ?_) (fun h48 => ?_)
      · refine s_iload_n B dX9_sharesIt_55 rfl 0 rfl ?_
        refine s_aload_n B dX9_sharesIt_56 rfl 1 rfl ?_
        refine s_aload_n B dX9_sharesIt_57 rfl 1 rfl ?_
        refine s_get (T := TX9) B inX9 0 rfl rfl 37 (Nat.le_of_ble_eq_true rfl) fl_X9_307 rfl rfl dX9_sharesIt_58 ?_
        refine s_callVi B hsc (c_X9_knocksIt l D g b (upd I 40 v_18) W n p0 t q mm bd_16 a_traced_17 (I 37) (by omega) (by omega) (by omega) (by omega) (by omega) (by omega)) (gw_V ml_X9_301 im_yX9_knocksIt se_yX9_knocksIt ini_RX9 co_yX9_knocksIt) hd_X9_knocksIt rfl rfl ⟨(Nat.le_of_ble_eq_true rfl), (Nat.le_of_ble_eq_true rfl)⟩ [0, 1] [0, 1, 2, 3, 4] rfl rfl rfl (ci := 9) (q0 := 0) rfl rfl rfl rfl rfl (Nat.le_of_ble_eq_true rfl) dX9_sharesIt_61 (fun r_21 u_22 hpo => ?_)
        obtain ⟨bd_23, a_traced_24, hf_25, hf_26, rfl⟩ := hpo
        refine s_ws (ws' := [(b 0, .inr (9, [.int (nI n), .ref (b 1), .ref (b 2), .int (nI p0), .ref (b 3), .ref (b 4), .ref (b 5), .ref (b 6), .ref (b 7), .ref (b 8), .int (I 10), .ref (b 9), .int (nI t), .int (I 13), .int (I 14), .int (I 15), .long W, .int (I 17), .int (I 18), .int (I 19), .int (I 20), .ref (b 10), .ref (b 11), .ref (b 12), .ref (b 13), .ref (b 14), .ref (b 15), .int (nI q), .int (nI mm), .ref (b 16), .ref (b 17), .ref (b 18), .ref (b 19), .ref (b 20), .ref (b 21), .int (I 35), .int (I 36), .int (I 37), .ref (b 22), .int (nI bd_23), .int v_18, .int (I 41), .ref (b 23), .int (I 43), .ref (b 24)])), (b 22, .inl (g 0, 30, .inl a_traced_24))]) rfl ?_
        refine s_iadd B dX9_sharesIt_64 ?_
        refine s_iret B hQ hr dX9_sharesIt_65 rfl ?_
        exact ⟨bd_23, a_traced_24, v_18, by omega, (rSh_3n h29 hf_13 hf_20 h48 hf_26), rfl⟩
      · refine s_iconst B dX9_sharesIt_51 ic_0 ?_
        refine s_goto (tgt := 65) B dX9_sharesIt_52 rfl ?_
        refine s_iret B hQ hr dX9_sharesIt_65 rfl ?_
        exact ⟨bd_16, a_traced_17, v_18, by omega, (rSh_3p h29 hf_13 hf_20 h48), rfl⟩
  · refine s_aload_n B dX9_sharesIt_8 rfl 0 rfl ?_
    refine s_bipush B dX9_sharesIt_9 bp_50 ?_
    refine s_callVv B hsc (c_X9_ran l D g b I W n p0 t q mm bd a_traced 50 (by omega) (by omega) (by omega) (by omega) (by omega) (by omega)) (gw_V ml_X9_286 im_yX9_ran se_yX9_ran ini_RX9 co_yX9_ran) hd_X9_ran rfl rfl ⟨(Nat.le_of_ble_eq_true rfl), (Nat.le_of_ble_eq_true rfl)⟩ [0, 1] [0, 1, 2, 3, 4] rfl rfl rfl (ci := 9) (q0 := 0) rfl rfl rfl rfl rfl (Nat.le_of_ble_eq_true rfl) dX9_sharesIt_11 (fun u_28 hpo => ?_)
    obtain ⟨bd_29, a_traced_30, hf_31, hf_32, rfl⟩ := hpo
    refine s_ws (ws' := [(b 0, .inr (9, [.int (nI n), .ref (b 1), .ref (b 2), .int (nI p0), .ref (b 3), .ref (b 4), .ref (b 5), .ref (b 6), .ref (b 7), .ref (b 8), .int (I 10), .ref (b 9), .int (nI t), .int (I 13), .int (I 14), .int (I 15), .long W, .int (I 17), .int (I 18), .int (I 19), .int (I 20), .ref (b 10), .ref (b 11), .ref (b 12), .ref (b 13), .ref (b 14), .ref (b 15), .int (nI q), .int (nI mm), .ref (b 16), .ref (b 17), .ref (b 18), .ref (b 19), .ref (b 20), .ref (b 21), .int (I 35), .int (I 36), .int (I 37), .ref (b 22), .int (nI bd_29), .int (I 40), .int (I 41), .ref (b 23), .int (I 43), .ref (b 24)])), (b 22, .inl (g 0, 30, .inl a_traced_30))]) rfl ?_
    refine s_aload_n B dX9_sharesIt_14 rfl 0 rfl ?_
    refine s_iload_n B dX9_sharesIt_15 rfl 1 rfl ?_
    refine s_iconst B dX9_sharesIt_16 ic_2 ?_
    refine s_iadd B dX9_sharesIt_17 ?_
    refine s_callVi B hsc (c_X9_plainShares l D g b I W n p0 t q mm bd_29 a_traced_30 (x0 + 2) (by omega) (by omega) (by omega) (by omega) (by omega) (by omega)) (gw_V ml_X9_313 im_yX9_plainShares se_yX9_plainShares ini_RX9 co_yX9_plainShares) hd_X9_plainShares rfl rfl ⟨(Nat.le_of_ble_eq_true rfl), (Nat.le_of_ble_eq_true rfl)⟩ [0, 1] [0, 1, 2, 3, 4] rfl rfl rfl (ci := 9) (q0 := 0) rfl rfl rfl rfl rfl (Nat.le_of_ble_eq_true rfl) dX9_sharesIt_18 (fun r_33 u_34 hpo => ?_)
    obtain ⟨bd_35, a_traced_36, v_37, hf_38, hf_39, rfl⟩ := hpo
    refine s_ws (ws' := [(b 0, .inr (9, [.int (nI n), .ref (b 1), .ref (b 2), .int (nI p0), .ref (b 3), .ref (b 4), .ref (b 5), .ref (b 6), .ref (b 7), .ref (b 8), .int (I 10), .ref (b 9), .int (nI t), .int (I 13), .int (I 14), .int (I 15), .long W, .int (I 17), .int (I 18), .int (I 19), .int (I 20), .ref (b 10), .ref (b 11), .ref (b 12), .ref (b 13), .ref (b 14), .ref (b 15), .int (nI q), .int (nI mm), .ref (b 16), .ref (b 17), .ref (b 18), .ref (b 19), .ref (b 20), .ref (b 21), .int (I 35), .int (I 36), .int (I 37), .ref (b 22), .int (nI bd_35), .int v_37, .int (I 41), .ref (b 23), .int (I 43), .ref (b 24)])), (b 22, .inl (g 0, 30, .inl a_traced_36))]) rfl ?_
    refine s_iconst B dX9_sharesIt_21 ic_1 ?_
    refine s_ixor B dX9_sharesIt_22 ?_
    refine s_iret B hQ hr dX9_sharesIt_23 rfl ?_
    exact ⟨bd_35, a_traced_36, v_37, by omega, (by rw [rSh_4 h5]; exact vRun_pr hf_32 (vRun_map (fun v => v ^^^ 1) hf_39)), rfl⟩
def rmX9_plainTells : Room := { frames := 6, cells := 0, slots := 0, locals := 127 }
theorem hd_X9_plainTells : yX9_plainTells.cls = RX9 ∧ yX9_plainTells.cls ≠ "java/lang/invoke/MethodHandle" ∧ yX9_plainTells.cls ≠ "java/lang/invoke/VarHandle" ∧ (parseMethodDescriptor yX9_plainTells.desc).map (fun d => d.parameters.length) = some 1 := by decide +kernel
set_option maxHeartbeats 4000000 in
set_option maxRecDepth 100000 in
theorem c_X9_plainTells (l : Launch) (D : va_G) (g : Nat → ClassId) (b : Nat → Nat) (I : Nat → Int32) (W : Int64) (n p0 t q mm bd : Nat) (a_traced : Nat → Int32) (x0 : Int32) (hn : n ≤ 8) (hp : p0 = 0 ∨ p0 = 25) (ht : t ≤ 240) (hq0 : q ≤ 20) (hmm : mm ≤ 20) (hbd : bd ≤ 30) : Ci l yX9_plainTells (WW yX9_plainTells cX9_plainTells 2 (some FieldType.int)) rmX9_plainTells D vwCl (TY g) [.ref (b 0), .int x0] [(b 0, .inr (9, [.int (nI n), .ref (b 1), .ref (b 2), .int (nI p0), .ref (b 3), .ref (b 4), .ref (b 5), .ref (b 6), .ref (b 7), .ref (b 8), .int (I 10), .ref (b 9), .int (nI t), .int (I 13), .int (I 14), .int (I 15), .long W, .int (I 17), .int (I 18), .int (I 19), .int (I 20), .ref (b 10), .ref (b 11), .ref (b 12), .ref (b 13), .ref (b 14), .ref (b 15), .int (nI q), .int (nI mm), .ref (b 16), .ref (b 17), .ref (b 18), .ref (b 19), .ref (b 20), .ref (b 21), .int (I 35), .int (I 36), .int (I 37), .ref (b 22), .int (nI bd), .int (I 40), .int (I 41), .ref (b 23), .int (I 43), .ref (b 24)])), (b 22, .inl (g 0, 30, .inl a_traced))] (fun r u => ∃ (bd' : Nat) (a_traced' : Nat → Int32) (isParted' : Int32), (bd' ≤ 30) ∧ (((r, isParted', ((a_traced', bd') : MT)) : Int32 × Int32 × MT) = vRun (rPT (I 35) (I 36) (I 37) x0 (I 40)) ((a_traced, bd) : MT)) ∧ u = [(b 0, .inr (9, [.int (nI n), .ref (b 1), .ref (b 2), .int (nI p0), .ref (b 3), .ref (b 4), .ref (b 5), .ref (b 6), .ref (b 7), .ref (b 8), .int (I 10), .ref (b 9), .int (nI t), .int (I 13), .int (I 14), .int (I 15), .long W, .int (I 17), .int (I 18), .int (I 19), .int (I 20), .ref (b 10), .ref (b 11), .ref (b 12), .ref (b 13), .ref (b 14), .ref (b 15), .int (nI q), .int (nI mm), .ref (b 16), .ref (b 17), .ref (b 18), .ref (b 19), .ref (b 20), .ref (b 21), .int (I 35), .int (I 36), .int (I 37), .ref (b 22), .int (nI bd'), .int isParted', .int (I 41), .ref (b 23), .int (I 43), .ref (b 24)])), (b 22, .inl (g 0, 30, .inl a_traced'))]) := by
  refine ci_in (by decide) (Nat.le_of_ble_eq_true rfl) (a0 := [b 0, b 22]) rfl (fun p e s m args below meth c A Q hQ B hr hsc => ?_)
  refine s_aload_n B dX9_plainTells_0 rfl 0 rfl ?_
  refine s_bipush B dX9_plainTells_1 bp_13 ?_
  refine s_callVv B hsc (c_X9_ran l D g b I W n p0 t q mm bd a_traced 13 (by omega) (by omega) (by omega) (by omega) (by omega) (by omega)) (gw_V ml_X9_286 im_yX9_ran se_yX9_ran ini_RX9 co_yX9_ran) hd_X9_ran rfl rfl ⟨(Nat.le_of_ble_eq_true rfl), (Nat.le_of_ble_eq_true rfl)⟩ [0, 1] [0, 1, 2, 3, 4] rfl rfl rfl (ci := 9) (q0 := 0) rfl rfl rfl rfl rfl (Nat.le_of_ble_eq_true rfl) dX9_plainTells_3 (fun u_2 hpo => ?_)
  obtain ⟨bd_3, a_traced_4, hf_5, hf_6, rfl⟩ := hpo
  refine s_ws (ws' := [(b 0, .inr (9, [.int (nI n), .ref (b 1), .ref (b 2), .int (nI p0), .ref (b 3), .ref (b 4), .ref (b 5), .ref (b 6), .ref (b 7), .ref (b 8), .int (I 10), .ref (b 9), .int (nI t), .int (I 13), .int (I 14), .int (I 15), .long W, .int (I 17), .int (I 18), .int (I 19), .int (I 20), .ref (b 10), .ref (b 11), .ref (b 12), .ref (b 13), .ref (b 14), .ref (b 15), .int (nI q), .int (nI mm), .ref (b 16), .ref (b 17), .ref (b 18), .ref (b 19), .ref (b 20), .ref (b 21), .int (I 35), .int (I 36), .int (I 37), .ref (b 22), .int (nI bd_3), .int (I 40), .int (I 41), .ref (b 23), .int (I 43), .ref (b 24)])), (b 22, .inl (g 0, 30, .inl a_traced_4))]) rfl ?_
  refine s_aload_n B dX9_plainTells_6 rfl 0 rfl ?_
  refine s_iload_n B dX9_plainTells_7 rfl 1 rfl ?_
  refine s_callVi B hsc (c_X9_crossesIt l D g b I W n p0 t q mm bd_3 a_traced_4 x0 (by omega) (by omega) (by omega) (by omega) (by omega) (by omega)) (gw_V ml_X9_316 im_yX9_crossesIt se_yX9_crossesIt ini_RX9 co_yX9_crossesIt) hd_X9_crossesIt rfl rfl ⟨(Nat.le_of_ble_eq_true rfl), (Nat.le_of_ble_eq_true rfl)⟩ [0, 1] [0, 1, 2, 3, 4] rfl rfl rfl (ci := 9) (q0 := 0) rfl rfl rfl rfl rfl (Nat.le_of_ble_eq_true rfl) dX9_plainTells_8 (fun r_7 u_8 hpo => ?_)
  obtain ⟨bd_9, a_traced_10, hf_11, hf_12, rfl⟩ := hpo
  refine s_ws (ws' := [(b 0, .inr (9, [.int (nI n), .ref (b 1), .ref (b 2), .int (nI p0), .ref (b 3), .ref (b 4), .ref (b 5), .ref (b 6), .ref (b 7), .ref (b 8), .int (I 10), .ref (b 9), .int (nI t), .int (I 13), .int (I 14), .int (I 15), .long W, .int (I 17), .int (I 18), .int (I 19), .int (I 20), .ref (b 10), .ref (b 11), .ref (b 12), .ref (b 13), .ref (b 14), .ref (b 15), .int (nI q), .int (nI mm), .ref (b 16), .ref (b 17), .ref (b 18), .ref (b 19), .ref (b 20), .ref (b 21), .int (I 35), .int (I 36), .int (I 37), .ref (b 22), .int (nI bd_9), .int (I 40), .int (I 41), .ref (b 23), .int (I 43), .ref (b 24)])), (b 22, .inl (g 0, 30, .inl a_traced_10))]) rfl ?_
  refine s_aload_n B dX9_plainTells_11 rfl 0 rfl ?_
  refine s_get (T := TX9) B inX9 0 rfl rfl 37 (Nat.le_of_ble_eq_true rfl) fl_X9_307 rfl rfl dX9_plainTells_12 ?_
  refine s_ixor B dX9_plainTells_15 ?_
  refine s_iret B hQ hr dX9_plainTells_16 rfl ?_
  exact ⟨bd_9, a_traced_10, (I 40), by omega, (vRun_pr hf_6 (vRun_map (fun v => v ^^^ I 37) hf_12)), rfl⟩
def rmX9_tellsIt : Room := { frames := 7, cells := 0, slots := 0, locals := 148 }
theorem hd_X9_tellsIt : yX9_tellsIt.cls = RX9 ∧ yX9_tellsIt.cls ≠ "java/lang/invoke/MethodHandle" ∧ yX9_tellsIt.cls ≠ "java/lang/invoke/VarHandle" ∧ (parseMethodDescriptor yX9_tellsIt.desc).map (fun d => d.parameters.length) = some 1 := by decide +kernel
set_option maxHeartbeats 4000000 in
set_option maxRecDepth 100000 in
theorem c_X9_tellsIt (l : Launch) (D : va_G) (g : Nat → ClassId) (b : Nat → Nat) (I : Nat → Int32) (W : Int64) (n p0 t q mm bd : Nat) (a_traced : Nat → Int32) (x0 : Int32) (hn : n ≤ 8) (hp : p0 = 0 ∨ p0 = 25) (ht : t ≤ 240) (hq0 : q ≤ 20) (hmm : mm ≤ 20) (hbd : bd ≤ 30) : Ci l yX9_tellsIt (WW yX9_tellsIt cX9_tellsIt 3 (some FieldType.int)) rmX9_tellsIt D vwCl (TY g) [.ref (b 0), .int x0] [(b 0, .inr (9, [.int (nI n), .ref (b 1), .ref (b 2), .int (nI p0), .ref (b 3), .ref (b 4), .ref (b 5), .ref (b 6), .ref (b 7), .ref (b 8), .int (I 10), .ref (b 9), .int (nI t), .int (I 13), .int (I 14), .int (I 15), .long W, .int (I 17), .int (I 18), .int (I 19), .int (I 20), .ref (b 10), .ref (b 11), .ref (b 12), .ref (b 13), .ref (b 14), .ref (b 15), .int (nI q), .int (nI mm), .ref (b 16), .ref (b 17), .ref (b 18), .ref (b 19), .ref (b 20), .ref (b 21), .int (I 35), .int (I 36), .int (I 37), .ref (b 22), .int (nI bd), .int (I 40), .int (I 41), .ref (b 23), .int (I 43), .ref (b 24)])), (b 22, .inl (g 0, 30, .inl a_traced))] (fun r u => ∃ (bd' : Nat) (a_traced' : Nat → Int32) (isParted' : Int32), (bd' ≤ 30) ∧ (((r, isParted', ((a_traced', bd') : MT)) : Int32 × Int32 × MT) = vRun (rTe (I 35) (I 36) (I 37) x0 (I 40)) ((a_traced, bd) : MT)) ∧ u = [(b 0, .inr (9, [.int (nI n), .ref (b 1), .ref (b 2), .int (nI p0), .ref (b 3), .ref (b 4), .ref (b 5), .ref (b 6), .ref (b 7), .ref (b 8), .int (I 10), .ref (b 9), .int (nI t), .int (I 13), .int (I 14), .int (I 15), .long W, .int (I 17), .int (I 18), .int (I 19), .int (I 20), .ref (b 10), .ref (b 11), .ref (b 12), .ref (b 13), .ref (b 14), .ref (b 15), .int (nI q), .int (nI mm), .ref (b 16), .ref (b 17), .ref (b 18), .ref (b 19), .ref (b 20), .ref (b 21), .int (I 35), .int (I 36), .int (I 37), .ref (b 22), .int (nI bd'), .int isParted', .int (I 41), .ref (b 23), .int (I 43), .ref (b 24)])), (b 22, .inl (g 0, 30, .inl a_traced'))]) := by
  refine ci_in (by decide) (Nat.le_of_ble_eq_true rfl) (a0 := [b 0, b 22]) rfl (fun p e s m args below meth c A Q hQ B hr hsc => ?_)
  refine s_aload_n B dX9_tellsIt_0 rfl 0 rfl ?_
  refine s_get (T := TX9) B inX9 0 rfl rfl 35 (Nat.le_of_ble_eq_true rfl) fl_X9_295 rfl rfl dX9_tellsIt_1 ?_
  refine s_iconst B dX9_tellsIt_4 ic_2 ?_
  refine s_icmp_eq (tgt := 16) B dX9_tellsIt_5 rfl (fun h5 => ?_) (fun h5 => ?_)
  · refine s_aload_n B dX9_tellsIt_16 rfl 0 rfl ?_
    refine s_bipush B dX9_tellsIt_17 bp_31 ?_
    refine s_callVv B hsc (c_X9_ran l D g b I W n p0 t q mm bd a_traced 31 (by omega) (by omega) (by omega) (by omega) (by omega) (by omega)) (gw_V ml_X9_286 im_yX9_ran se_yX9_ran ini_RX9 co_yX9_ran) hd_X9_ran rfl rfl ⟨(Nat.le_of_ble_eq_true rfl), (Nat.le_of_ble_eq_true rfl)⟩ [0, 1] [0, 1, 2, 3, 4] rfl rfl rfl (ci := 9) (q0 := 0) rfl rfl rfl rfl rfl (Nat.le_of_ble_eq_true rfl) dX9_tellsIt_19 (fun u_2 hpo => ?_)
    obtain ⟨bd_3, a_traced_4, hf_5, hf_6, rfl⟩ := hpo
    refine s_ws (ws' := [(b 0, .inr (9, [.int (nI n), .ref (b 1), .ref (b 2), .int (nI p0), .ref (b 3), .ref (b 4), .ref (b 5), .ref (b 6), .ref (b 7), .ref (b 8), .int (I 10), .ref (b 9), .int (nI t), .int (I 13), .int (I 14), .int (I 15), .long W, .int (I 17), .int (I 18), .int (I 19), .int (I 20), .ref (b 10), .ref (b 11), .ref (b 12), .ref (b 13), .ref (b 14), .ref (b 15), .int (nI q), .int (nI mm), .ref (b 16), .ref (b 17), .ref (b 18), .ref (b 19), .ref (b 20), .ref (b 21), .int (I 35), .int (I 36), .int (I 37), .ref (b 22), .int (nI bd_3), .int (I 40), .int (I 41), .ref (b 23), .int (I 43), .ref (b 24)])), (b 22, .inl (g 0, 30, .inl a_traced_4))]) rfl ?_
    refine s_aload_n B dX9_tellsIt_22 rfl 0 rfl ?_
    refine s_iload_n B dX9_tellsIt_23 rfl 1 rfl ?_
    refine s_callVi B hsc (c_X9_plainTells l D g b I W n p0 t q mm bd_3 a_traced_4 x0 (by omega) (by omega) (by omega) (by omega) (by omega) (by omega)) (gw_V ml_X9_319 im_yX9_plainTells se_yX9_plainTells ini_RX9 co_yX9_plainTells) hd_X9_plainTells rfl rfl ⟨(Nat.le_of_ble_eq_true rfl), (Nat.le_of_ble_eq_true rfl)⟩ [0, 1] [0, 1, 2, 3, 4] rfl rfl rfl (ci := 9) (q0 := 0) rfl rfl rfl rfl rfl (Nat.le_of_ble_eq_true rfl) dX9_tellsIt_24 (fun r_7 u_8 hpo => ?_)
    obtain ⟨bd_9, a_traced_10, v_11, hf_12, hf_13, rfl⟩ := hpo
    refine s_ws (ws' := [(b 0, .inr (9, [.int (nI n), .ref (b 1), .ref (b 2), .int (nI p0), .ref (b 3), .ref (b 4), .ref (b 5), .ref (b 6), .ref (b 7), .ref (b 8), .int (I 10), .ref (b 9), .int (nI t), .int (I 13), .int (I 14), .int (I 15), .long W, .int (I 17), .int (I 18), .int (I 19), .int (I 20), .ref (b 10), .ref (b 11), .ref (b 12), .ref (b 13), .ref (b 14), .ref (b 15), .int (nI q), .int (nI mm), .ref (b 16), .ref (b 17), .ref (b 18), .ref (b 19), .ref (b 20), .ref (b 21), .int (I 35), .int (I 36), .int (I 37), .ref (b 22), .int (nI bd_9), .int v_11, .int (I 41), .ref (b 23), .int (I 43), .ref (b 24)])), (b 22, .inl (g 0, 30, .inl a_traced_10))]) rfl ?_
    refine s_istore_n (lv' := [(2, _), (0, _), (1, _)]) B dX9_tellsIt_27 rfl (Nat.le_of_ble_eq_true rfl) rfl ?_
    refine s_iload_n B dX9_tellsIt_28 rfl 0 rfl ?_
    refine s_aload_n B dX9_tellsIt_29 rfl 1 rfl ?_
    refine s_aload_n B dX9_tellsIt_30 rfl 1 rfl ?_
    refine s_get (T := TX9) B inX9 0 rfl rfl 36 (Nat.le_of_ble_eq_true rfl) fl_X9_289 rfl rfl dX9_tellsIt_31 ?_
    refine s_callVi B hsc (c_X9_sharesIt l D g b (upd I 40 v_11) W n p0 t q mm bd_9 a_traced_10 (I 36) (by omega) (by omega) (by omega) (by omega) (by omega) (by omega)) (gw_V ml_X9_322 im_yX9_sharesIt se_yX9_sharesIt ini_RX9 co_yX9_sharesIt) hd_X9_sharesIt rfl rfl ⟨(Nat.le_of_ble_eq_true rfl), (Nat.le_of_ble_eq_true rfl)⟩ [0, 1] [0, 1, 2, 3, 4] rfl rfl rfl (ci := 9) (q0 := 0) rfl rfl rfl rfl rfl (Nat.le_of_ble_eq_true rfl) dX9_tellsIt_34 (fun r_14 u_15 hpo => ?_)
    obtain ⟨bd_16, a_traced_17, v_18, hf_19, hf_20, rfl⟩ := hpo
    refine s_ws (ws' := [(b 0, .inr (9, [.int (nI n), .ref (b 1), .ref (b 2), .int (nI p0), .ref (b 3), .ref (b 4), .ref (b 5), .ref (b 6), .ref (b 7), .ref (b 8), .int (I 10), .ref (b 9), .int (nI t), .int (I 13), .int (I 14), .int (I 15), .long W, .int (I 17), .int (I 18), .int (I 19), .int (I 20), .ref (b 10), .ref (b 11), .ref (b 12), .ref (b 13), .ref (b 14), .ref (b 15), .int (nI q), .int (nI mm), .ref (b 16), .ref (b 17), .ref (b 18), .ref (b 19), .ref (b 20), .ref (b 21), .int (I 35), .int (I 36), .int (I 37), .ref (b 22), .int (nI bd_16), .int v_18, .int (I 41), .ref (b 23), .int (I 43), .ref (b 24)])), (b 22, .inl (g 0, 30, .inl a_traced_17))]) rfl ?_
    refine s_iadd B dX9_tellsIt_37 ?_
    refine s_iret B hQ hr dX9_tellsIt_38 rfl ?_
    exact ⟨bd_16, a_traced_17, v_18, by omega, (by rw [rTe_2 (by first | exact Or.inl (by assumption) | exact Or.inr (by assumption))]; exact vRun_pr hf_6 (vRun_add (f := fun p => rSh (I 35) (I 36) (I 37) (I 36) p) hf_13 hf_20)), rfl⟩
  · refine s_aload_n B dX9_tellsIt_8 rfl 0 rfl ?_
    refine s_get (T := TX9) B inX9 0 rfl rfl 35 (Nat.le_of_ble_eq_true rfl) fl_X9_295 rfl rfl dX9_tellsIt_9 ?_
    refine s_iconst B dX9_tellsIt_12 ic_5 ?_
    refine s_icmp_ne (tgt := 39) B dX9_tellsIt_13 rfl (fun h13 => ?_) (fun h13 => ?_)
    · refine s_aload_n B dX9_tellsIt_39 rfl 0 rfl ?_
      refine s_get (T := TX9) B inX9 0 rfl rfl 35 (Nat.le_of_ble_eq_true rfl) fl_X9_295 rfl rfl dX9_tellsIt_40 ?_
      refine s_iconst B dX9_tellsIt_43 ic_3 ?_
      refine s_icmp_ne (tgt := 61) B dX9_tellsIt_44 rfl (fun h44 => ?_) (fun h44 => ?_)
      · refine s_aload_n B dX9_tellsIt_61 rfl 0 rfl ?_
        refine s_iload_n B dX9_tellsIt_62 rfl 1 rfl ?_
        refine s_callVi B hsc (c_X9_plainTells l D g b I W n p0 t q mm bd a_traced x0 (by omega) (by omega) (by omega) (by omega) (by omega) (by omega)) (gw_V ml_X9_319 im_yX9_plainTells se_yX9_plainTells ini_RX9 co_yX9_plainTells) hd_X9_plainTells rfl rfl ⟨(Nat.le_of_ble_eq_true rfl), (Nat.le_of_ble_eq_true rfl)⟩ [0, 1] [0, 1, 2, 3, 4] rfl rfl rfl (ci := 9) (q0 := 0) rfl rfl rfl rfl rfl (Nat.le_of_ble_eq_true rfl) dX9_tellsIt_63 (fun r_21 u_22 hpo => ?_)
        obtain ⟨bd_23, a_traced_24, v_25, hf_26, hf_27, rfl⟩ := hpo
        refine s_ws (ws' := [(b 0, .inr (9, [.int (nI n), .ref (b 1), .ref (b 2), .int (nI p0), .ref (b 3), .ref (b 4), .ref (b 5), .ref (b 6), .ref (b 7), .ref (b 8), .int (I 10), .ref (b 9), .int (nI t), .int (I 13), .int (I 14), .int (I 15), .long W, .int (I 17), .int (I 18), .int (I 19), .int (I 20), .ref (b 10), .ref (b 11), .ref (b 12), .ref (b 13), .ref (b 14), .ref (b 15), .int (nI q), .int (nI mm), .ref (b 16), .ref (b 17), .ref (b 18), .ref (b 19), .ref (b 20), .ref (b 21), .int (I 35), .int (I 36), .int (I 37), .ref (b 22), .int (nI bd_23), .int v_25, .int (I 41), .ref (b 23), .int (I 43), .ref (b 24)])), (b 22, .inl (g 0, 30, .inl a_traced_24))]) rfl ?_
        refine s_iret B hQ hr dX9_tellsIt_66 rfl ?_
        exact ⟨bd_23, a_traced_24, v_25, by omega, (by rw [rTe_o (by assumption) (by assumption) (by assumption)]; exact hf_27), rfl⟩
      · refine s_aload_n B dX9_tellsIt_47 rfl 0 rfl ?_
        refine s_bipush B dX9_tellsIt_48 bp_60 ?_
        refine s_callVv B hsc (c_X9_ran l D g b I W n p0 t q mm bd a_traced 60 (by omega) (by omega) (by omega) (by omega) (by omega) (by omega)) (gw_V ml_X9_286 im_yX9_ran se_yX9_ran ini_RX9 co_yX9_ran) hd_X9_ran rfl rfl ⟨(Nat.le_of_ble_eq_true rfl), (Nat.le_of_ble_eq_true rfl)⟩ [0, 1] [0, 1, 2, 3, 4] rfl rfl rfl (ci := 9) (q0 := 0) rfl rfl rfl rfl rfl (Nat.le_of_ble_eq_true rfl) dX9_tellsIt_50 (fun u_29 hpo => ?_)
        obtain ⟨bd_30, a_traced_31, hf_32, hf_33, rfl⟩ := hpo
        refine s_ws (ws' := [(b 0, .inr (9, [.int (nI n), .ref (b 1), .ref (b 2), .int (nI p0), .ref (b 3), .ref (b 4), .ref (b 5), .ref (b 6), .ref (b 7), .ref (b 8), .int (I 10), .ref (b 9), .int (nI t), .int (I 13), .int (I 14), .int (I 15), .long W, .int (I 17), .int (I 18), .int (I 19), .int (I 20), .ref (b 10), .ref (b 11), .ref (b 12), .ref (b 13), .ref (b 14), .ref (b 15), .int (nI q), .int (nI mm), .ref (b 16), .ref (b 17), .ref (b 18), .ref (b 19), .ref (b 20), .ref (b 21), .int (I 35), .int (I 36), .int (I 37), .ref (b 22), .int (nI bd_30), .int (I 40), .int (I 41), .ref (b 23), .int (I 43), .ref (b 24)])), (b 22, .inl (g 0, 30, .inl a_traced_31))]) rfl ?_
        refine s_aload_n B dX9_tellsIt_53 rfl 0 rfl ?_
        refine s_iload_n B dX9_tellsIt_54 rfl 1 rfl ?_
        refine s_callVi B hsc (c_X9_plainTells l D g b I W n p0 t q mm bd_30 a_traced_31 x0 (by omega) (by omega) (by omega) (by omega) (by omega) (by omega)) (gw_V ml_X9_319 im_yX9_plainTells se_yX9_plainTells ini_RX9 co_yX9_plainTells) hd_X9_plainTells rfl rfl ⟨(Nat.le_of_ble_eq_true rfl), (Nat.le_of_ble_eq_true rfl)⟩ [0, 1] [0, 1, 2, 3, 4] rfl rfl rfl (ci := 9) (q0 := 0) rfl rfl rfl rfl rfl (Nat.le_of_ble_eq_true rfl) dX9_tellsIt_55 (fun r_34 u_35 hpo => ?_)
        obtain ⟨bd_36, a_traced_37, v_38, hf_39, hf_40, rfl⟩ := hpo
        refine s_ws (ws' := [(b 0, .inr (9, [.int (nI n), .ref (b 1), .ref (b 2), .int (nI p0), .ref (b 3), .ref (b 4), .ref (b 5), .ref (b 6), .ref (b 7), .ref (b 8), .int (I 10), .ref (b 9), .int (nI t), .int (I 13), .int (I 14), .int (I 15), .long W, .int (I 17), .int (I 18), .int (I 19), .int (I 20), .ref (b 10), .ref (b 11), .ref (b 12), .ref (b 13), .ref (b 14), .ref (b 15), .int (nI q), .int (nI mm), .ref (b 16), .ref (b 17), .ref (b 18), .ref (b 19), .ref (b 20), .ref (b 21), .int (I 35), .int (I 36), .int (I 37), .ref (b 22), .int (nI bd_36), .int v_38, .int (I 41), .ref (b 23), .int (I 43), .ref (b 24)])), (b 22, .inl (g 0, 30, .inl a_traced_37))]) rfl ?_
        refine s_iconst B dX9_tellsIt_58 ic_2 ?_
        refine s_imul B dX9_tellsIt_59 ?_
        refine s_iret B hQ hr dX9_tellsIt_60 rfl ?_
        exact ⟨bd_36, a_traced_37, v_38, by omega, (by rw [rTe_3 (by assumption)]; exact vRun_pr hf_33 (vRun_map (fun v => v * 2) hf_40)), rfl⟩
    · refine s_aload_n B dX9_tellsIt_16 rfl 0 rfl ?_
      refine s_bipush B dX9_tellsIt_17 bp_31 ?_
      refine s_callVv B hsc (c_X9_ran l D g b I W n p0 t q mm bd a_traced 31 (by omega) (by omega) (by omega) (by omega) (by omega) (by omega)) (gw_V ml_X9_286 im_yX9_ran se_yX9_ran ini_RX9 co_yX9_ran) hd_X9_ran rfl rfl ⟨(Nat.le_of_ble_eq_true rfl), (Nat.le_of_ble_eq_true rfl)⟩ [0, 1] [0, 1, 2, 3, 4] rfl rfl rfl (ci := 9) (q0 := 0) rfl rfl rfl rfl rfl (Nat.le_of_ble_eq_true rfl) dX9_tellsIt_19 (fun u_42 hpo => ?_)
      obtain ⟨bd_43, a_traced_44, hf_45, hf_46, rfl⟩ := hpo
      refine s_ws (ws' := [(b 0, .inr (9, [.int (nI n), .ref (b 1), .ref (b 2), .int (nI p0), .ref (b 3), .ref (b 4), .ref (b 5), .ref (b 6), .ref (b 7), .ref (b 8), .int (I 10), .ref (b 9), .int (nI t), .int (I 13), .int (I 14), .int (I 15), .long W, .int (I 17), .int (I 18), .int (I 19), .int (I 20), .ref (b 10), .ref (b 11), .ref (b 12), .ref (b 13), .ref (b 14), .ref (b 15), .int (nI q), .int (nI mm), .ref (b 16), .ref (b 17), .ref (b 18), .ref (b 19), .ref (b 20), .ref (b 21), .int (I 35), .int (I 36), .int (I 37), .ref (b 22), .int (nI bd_43), .int (I 40), .int (I 41), .ref (b 23), .int (I 43), .ref (b 24)])), (b 22, .inl (g 0, 30, .inl a_traced_44))]) rfl ?_
      refine s_aload_n B dX9_tellsIt_22 rfl 0 rfl ?_
      refine s_iload_n B dX9_tellsIt_23 rfl 1 rfl ?_
      refine s_callVi B hsc (c_X9_plainTells l D g b I W n p0 t q mm bd_43 a_traced_44 x0 (by omega) (by omega) (by omega) (by omega) (by omega) (by omega)) (gw_V ml_X9_319 im_yX9_plainTells se_yX9_plainTells ini_RX9 co_yX9_plainTells) hd_X9_plainTells rfl rfl ⟨(Nat.le_of_ble_eq_true rfl), (Nat.le_of_ble_eq_true rfl)⟩ [0, 1] [0, 1, 2, 3, 4] rfl rfl rfl (ci := 9) (q0 := 0) rfl rfl rfl rfl rfl (Nat.le_of_ble_eq_true rfl) dX9_tellsIt_24 (fun r_47 u_48 hpo => ?_)
      obtain ⟨bd_49, a_traced_50, v_51, hf_52, hf_53, rfl⟩ := hpo
      refine s_ws (ws' := [(b 0, .inr (9, [.int (nI n), .ref (b 1), .ref (b 2), .int (nI p0), .ref (b 3), .ref (b 4), .ref (b 5), .ref (b 6), .ref (b 7), .ref (b 8), .int (I 10), .ref (b 9), .int (nI t), .int (I 13), .int (I 14), .int (I 15), .long W, .int (I 17), .int (I 18), .int (I 19), .int (I 20), .ref (b 10), .ref (b 11), .ref (b 12), .ref (b 13), .ref (b 14), .ref (b 15), .int (nI q), .int (nI mm), .ref (b 16), .ref (b 17), .ref (b 18), .ref (b 19), .ref (b 20), .ref (b 21), .int (I 35), .int (I 36), .int (I 37), .ref (b 22), .int (nI bd_49), .int v_51, .int (I 41), .ref (b 23), .int (I 43), .ref (b 24)])), (b 22, .inl (g 0, 30, .inl a_traced_50))]) rfl ?_
      refine s_istore_n (lv' := [(2, _), (0, _), (1, _)]) B dX9_tellsIt_27 rfl (Nat.le_of_ble_eq_true rfl) rfl ?_
      refine s_iload_n B dX9_tellsIt_28 rfl 0 rfl ?_
      refine s_aload_n B dX9_tellsIt_29 rfl 1 rfl ?_
      refine s_aload_n B dX9_tellsIt_30 rfl 1 rfl ?_
      refine s_get (T := TX9) B inX9 0 rfl rfl 36 (Nat.le_of_ble_eq_true rfl) fl_X9_289 rfl rfl dX9_tellsIt_31 ?_
      refine s_callVi B hsc (c_X9_sharesIt l D g b (upd I 40 v_51) W n p0 t q mm bd_49 a_traced_50 (I 36) (by omega) (by omega) (by omega) (by omega) (by omega) (by omega)) (gw_V ml_X9_322 im_yX9_sharesIt se_yX9_sharesIt ini_RX9 co_yX9_sharesIt) hd_X9_sharesIt rfl rfl ⟨(Nat.le_of_ble_eq_true rfl), (Nat.le_of_ble_eq_true rfl)⟩ [0, 1] [0, 1, 2, 3, 4] rfl rfl rfl (ci := 9) (q0 := 0) rfl rfl rfl rfl rfl (Nat.le_of_ble_eq_true rfl) dX9_tellsIt_34 (fun r_54 u_55 hpo => ?_)
      obtain ⟨bd_56, a_traced_57, v_58, hf_59, hf_60, rfl⟩ := hpo
      refine s_ws (ws' := [(b 0, .inr (9, [.int (nI n), .ref (b 1), .ref (b 2), .int (nI p0), .ref (b 3), .ref (b 4), .ref (b 5), .ref (b 6), .ref (b 7), .ref (b 8), .int (I 10), .ref (b 9), .int (nI t), .int (I 13), .int (I 14), .int (I 15), .long W, .int (I 17), .int (I 18), .int (I 19), .int (I 20), .ref (b 10), .ref (b 11), .ref (b 12), .ref (b 13), .ref (b 14), .ref (b 15), .int (nI q), .int (nI mm), .ref (b 16), .ref (b 17), .ref (b 18), .ref (b 19), .ref (b 20), .ref (b 21), .int (I 35), .int (I 36), .int (I 37), .ref (b 22), .int (nI bd_56), .int v_58, .int (I 41), .ref (b 23), .int (I 43), .ref (b 24)])), (b 22, .inl (g 0, 30, .inl a_traced_57))]) rfl ?_
      refine s_iadd B dX9_tellsIt_37 ?_
      refine s_iret B hQ hr dX9_tellsIt_38 rfl ?_
      exact ⟨bd_56, a_traced_57, v_58, by omega, (by rw [rTe_2 (by first | exact Or.inl (by assumption) | exact Or.inr (by assumption))]; exact vRun_pr hf_46 (vRun_add (f := fun p => rSh (I 35) (I 36) (I 37) (I 36) p) hf_53 hf_60)), rfl⟩
def rmX9_trace : Room := { frames := 1, cells := 0, slots := 0, locals := 22 }
theorem hd_X9_trace : yX9_trace.cls = RX9 ∧ yX9_trace.cls ≠ "java/lang/invoke/MethodHandle" ∧ yX9_trace.cls ≠ "java/lang/invoke/VarHandle" ∧ (parseMethodDescriptor yX9_trace.desc).map (fun d => d.parameters.length) = some 1 := by decide +kernel
set_option maxHeartbeats 4000000 in
set_option maxRecDepth 100000 in
theorem c_X9_trace (l : Launch) (D : va_G) (g : Nat → ClassId) (b : Nat → Nat) (I : Nat → Int32) (W : Int64) (n p0 t q mm bd : Nat) (a_traced : Nat → Int32) (i0 : Int32) (hn : n ≤ 8) (hp : p0 = 0 ∨ p0 = 25) (ht : t ≤ 240) (hq0 : q ≤ 20) (hmm : mm ≤ 20) (hbd : bd ≤ 30) : Ci l yX9_trace (WW yX9_trace cX9_trace 2 (some FieldType.int)) rmX9_trace D vwCl (TY g) [.ref (b 0), .int i0] [(b 0, .inr (9, [.int (nI n), .ref (b 1), .ref (b 2), .int (nI p0), .ref (b 3), .ref (b 4), .ref (b 5), .ref (b 6), .ref (b 7), .ref (b 8), .int (I 10), .ref (b 9), .int (nI t), .int (I 13), .int (I 14), .int (I 15), .long W, .int (I 17), .int (I 18), .int (I 19), .int (I 20), .ref (b 10), .ref (b 11), .ref (b 12), .ref (b 13), .ref (b 14), .ref (b 15), .int (nI q), .int (nI mm), .ref (b 16), .ref (b 17), .ref (b 18), .ref (b 19), .ref (b 20), .ref (b 21), .int (I 35), .int (I 36), .int (I 37), .ref (b 22), .int (nI bd), .int (I 40), .int (I 41), .ref (b 23), .int (I 43), .ref (b 24)])), (b 22, .inl (g 0, 30, .inl a_traced))] (fun r u => (∀ T : MT, TrA T (a_traced, bd) → r = aTrace i0 T) ∧ u = [(b 0, .inr (9, [.int (nI n), .ref (b 1), .ref (b 2), .int (nI p0), .ref (b 3), .ref (b 4), .ref (b 5), .ref (b 6), .ref (b 7), .ref (b 8), .int (I 10), .ref (b 9), .int (nI t), .int (I 13), .int (I 14), .int (I 15), .long W, .int (I 17), .int (I 18), .int (I 19), .int (I 20), .ref (b 10), .ref (b 11), .ref (b 12), .ref (b 13), .ref (b 14), .ref (b 15), .int (nI q), .int (nI mm), .ref (b 16), .ref (b 17), .ref (b 18), .ref (b 19), .ref (b 20), .ref (b 21), .int (I 35), .int (I 36), .int (I 37), .ref (b 22), .int (nI bd), .int (I 40), .int (I 41), .ref (b 23), .int (I 43), .ref (b 24)])), (b 22, .inl (g 0, 30, .inl a_traced))]) := by
  refine ci_in (by decide) (Nat.le_of_ble_eq_true rfl) (a0 := [b 0, b 22]) rfl (fun p e s m args below meth c A Q hQ B hr hsc => ?_)
  refine s_iload_n B dX9_trace_0 rfl 1 rfl ?_
  refine s_iconst B dX9_trace_1 ic_0 ?_
  refine s_aload_n B dX9_trace_2 rfl 0 rfl ?_
  refine s_get (T := TX9) B inX9 0 rfl rfl 39 (Nat.le_of_ble_eq_true rfl) fl_X9_283 rfl rfl dX9_trace_3 ?_
  refine s_iconst B dX9_trace_6 ic_1 ?_
  refine s_isub B dX9_trace_7 ?_
  refine s_callSi B hsc (c_X9_in l D g i0 0 ((nI bd) - 1)) (gw_S ml_X9_87 sm_yX9_in ini_RX9 co_yX9_in) hd_X9_in rfl rfl ⟨(Nat.le_of_ble_eq_true rfl), (Nat.le_of_ble_eq_true rfl)⟩ [] [0, 1, 2, 3, 4] rfl rfl rfl rfl rfl (Nat.le_of_ble_eq_true rfl) dX9_trace_8 (fun r_1 u_2 hpo => ?_)
  obtain ⟨rfl, rfl⟩ := hpo
  refine s_st (st' := [.int (if ¬ i0 < 0 ∧ ¬ ((nI bd) - 1) < i0 then 1 else 0)]) rfl ?_
  refine s_ws (ws' := [(b 0, .inr (9, [.int (nI n), .ref (b 1), .ref (b 2), .int (nI p0), .ref (b 3), .ref (b 4), .ref (b 5), .ref (b 6), .ref (b 7), .ref (b 8), .int (I 10), .ref (b 9), .int (nI t), .int (I 13), .int (I 14), .int (I 15), .long W, .int (I 17), .int (I 18), .int (I 19), .int (I 20), .ref (b 10), .ref (b 11), .ref (b 12), .ref (b 13), .ref (b 14), .ref (b 15), .int (nI q), .int (nI mm), .ref (b 16), .ref (b 17), .ref (b 18), .ref (b 19), .ref (b 20), .ref (b 21), .int (I 35), .int (I 36), .int (I 37), .ref (b 22), .int (nI bd), .int (I 40), .int (I 41), .ref (b 23), .int (I 43), .ref (b 24)])), (b 22, .inl (g 0, 30, .inl a_traced))]) rfl ?_
  refine s_bif_eq (tgt := 23) B dX9_trace_11 rfl (fun h11 => ?_) (fun h11 => ?_)
  · refine s_bipush B dX9_trace_23 bp_m3 ?_
    refine s_iret B hQ hr dX9_trace_25 rfl ?_
    exact ⟨(fun T H => trace_no H h11), rfl⟩
  · obtain ⟨k_3, hk_4, rfl⟩ := nat_lt1 (N := bd) h11.1 h11.2 (by omega)
    refine s_aload_n B dX9_trace_14 rfl 0 rfl ?_
    refine s_get (T := TX9) B inX9 0 rfl rfl 38 (Nat.le_of_ble_eq_true rfl) fl_X9_78 rfl rfl dX9_trace_15 ?_
    refine s_iload_n B dX9_trace_18 rfl 1 rfl ?_
    refine s_ialdN B 1 0 rfl rfl dX9_trace_19 (by omega) (by decide) ?_
    refine s_goto (tgt := 25) B dX9_trace_20 rfl ?_
    refine s_iret B hQ hr dX9_trace_25 rfl ?_
    exact ⟨(fun T H => trace_ok H (by omega) (by omega)), rfl⟩
def rmX9_act : Room := { frames := 8, cells := 0, slots := 0, locals := 170 }
theorem hd_X9_act : yX9_act.cls = RX9 ∧ yX9_act.cls ≠ "java/lang/invoke/MethodHandle" ∧ yX9_act.cls ≠ "java/lang/invoke/VarHandle" ∧ (parseMethodDescriptor yX9_act.desc).map (fun d => d.parameters.length) = some 3 := by decide +kernel
set_option maxHeartbeats 4000000 in
set_option maxRecDepth 100000 in
theorem c_X9_act (l : Launch) (D : va_G) (g : Nat → ClassId) (b : Nat → Nat) (I : Nat → Int32) (W : Int64) (n p0 t q mm bd : Nat) (a_child : Nat → Int32) (a_held : Nat → Int32) (a_heldNumber : Nat → Int32) (a_traced : Nat → Int32) (s0 : Int32) (x0 : Int32) (y0 : Int32) (hn : n ≤ 8) (hp : p0 = 0 ∨ p0 = 25) (ht : t ≤ 240) (hq0 : q ≤ 20) (hmm : mm ≤ 20) (hbd : bd ≤ 30) : Ci l yX9_act (WW yX9_act cX9_act 6 (some FieldType.int)) rmX9_act D vwCl (TY g) [.ref (b 0), .int s0, .int x0, .int y0] [(b 0, .inr (9, [.int (nI n), .ref (b 1), .ref (b 2), .int (nI p0), .ref (b 3), .ref (b 4), .ref (b 5), .ref (b 6), .ref (b 7), .ref (b 8), .int (I 10), .ref (b 9), .int (nI t), .int (I 13), .int (I 14), .int (I 15), .long W, .int (I 17), .int (I 18), .int (I 19), .int (I 20), .ref (b 10), .ref (b 11), .ref (b 12), .ref (b 13), .ref (b 14), .ref (b 15), .int (nI q), .int (nI mm), .ref (b 16), .ref (b 17), .ref (b 18), .ref (b 19), .ref (b 20), .ref (b 21), .int (I 35), .int (I 36), .int (I 37), .ref (b 22), .int (nI bd), .int (I 40), .int (I 41), .ref (b 23), .int (I 43), .ref (b 24)])), (b 1, .inl (g 0, 32, .inl a_child)), (b 19, .inl (g 0, 4, .inl a_held)), (b 20, .inl (g 0, 4, .inl a_heldNumber)), (b 22, .inl (g 0, 30, .inl a_traced))] (fun r u => ∃ (kind' : Int32) (number' : Int32) (own' : Int32) (bd' : Nat) (a_traced' : Nat → Int32) (isParted' : Int32), (bd' ≤ 30) ∧ (((r, ((a_traced', bd') : MT)) : Int32 × MT) = (aActR s0 x0 y0 a_held a_heldNumber a_child n, gActR s0 x0 y0 a_held a_heldNumber a_child n a_traced)) ∧ u = [(b 0, .inr (9, [.int (nI n), .ref (b 1), .ref (b 2), .int (nI p0), .ref (b 3), .ref (b 4), .ref (b 5), .ref (b 6), .ref (b 7), .ref (b 8), .int (I 10), .ref (b 9), .int (nI t), .int (I 13), .int (I 14), .int (I 15), .long W, .int (I 17), .int (I 18), .int (I 19), .int (I 20), .ref (b 10), .ref (b 11), .ref (b 12), .ref (b 13), .ref (b 14), .ref (b 15), .int (nI q), .int (nI mm), .ref (b 16), .ref (b 17), .ref (b 18), .ref (b 19), .ref (b 20), .ref (b 21), .int kind', .int number', .int own', .ref (b 22), .int (nI bd'), .int isParted', .int (I 41), .ref (b 23), .int (I 43), .ref (b 24)])), (b 1, .inl (g 0, 32, .inl a_child)), (b 19, .inl (g 0, 4, .inl a_held)), (b 20, .inl (g 0, 4, .inl a_heldNumber)), (b 22, .inl (g 0, 30, .inl a_traced'))]) := by
  refine ci_in (by decide) (Nat.le_of_ble_eq_true rfl) (a0 := [b 0, b 1, b 19, b 20, b 22]) rfl (fun p e s m args below meth c A Q hQ B hr hsc => ?_)
  refine s_aload_n B dX9_act_0 rfl 0 rfl ?_
  refine s_iconst B dX9_act_1 ic_0 ?_
  refine s_put (T := TX9) (ws' := [_, _, _, _, _]) B inX9 tyX9_ok nmX9 0 rfl rfl 39 (Nat.le_of_ble_eq_true rfl) fl_X9_283 rfl rfl rfl rfl (Nat.le_of_ble_eq_true rfl) rfl dX9_act_2 ?_
  refine s_iload_n B dX9_act_5 rfl 1 rfl ?_
  refine s_callSi B hsc (c_X9_isShelf l D g s0) (gw_S ml_X9_266 sm_yX9_isShelf ini_RX9 co_yX9_isShelf) hd_X9_isShelf rfl rfl ⟨(Nat.le_of_ble_eq_true rfl), (Nat.le_of_ble_eq_true rfl)⟩ [] [0, 1, 2, 3, 4] rfl rfl rfl rfl rfl (Nat.le_of_ble_eq_true rfl) dX9_act_6 (fun r_1 u_2 hpo => ?_)
  obtain ⟨rfl, rfl⟩ := hpo
  refine s_st (st' := [.int (if ¬ s0 < 0 ∧ ¬ 3 < s0 then 1 else 0)]) rfl ?_
  refine s_ws (ws' := [(b 0, .inr (9, [.int (nI n), .ref (b 1), .ref (b 2), .int (nI p0), .ref (b 3), .ref (b 4), .ref (b 5), .ref (b 6), .ref (b 7), .ref (b 8), .int (I 10), .ref (b 9), .int (nI t), .int (I 13), .int (I 14), .int (I 15), .long W, .int (I 17), .int (I 18), .int (I 19), .int (I 20), .ref (b 10), .ref (b 11), .ref (b 12), .ref (b 13), .ref (b 14), .ref (b 15), .int (nI q), .int (nI mm), .ref (b 16), .ref (b 17), .ref (b 18), .ref (b 19), .ref (b 20), .ref (b 21), .int (I 35), .int (I 36), .int (I 37), .ref (b 22), .int 0, .int (I 40), .int (I 41), .ref (b 23), .int (I 43), .ref (b 24)])), (b 1, .inl (g 0, 32, .inl a_child)), (b 19, .inl (g 0, 4, .inl a_held)), (b 20, .inl (g 0, 4, .inl a_heldNumber)), (b 22, .inl (g 0, 30, .inl a_traced))]) rfl ?_
  refine s_bif_eq (tgt := 20) B dX9_act_9 rfl (fun h9 => ?_) (fun h9 => ?_)
  · refine s_iconst B dX9_act_20 ic_m1 ?_
    refine s_istore (lv' := [(4, _), (0, _), (1, _), (2, _), (3, _)]) B dX9_act_21 (Nat.le_of_ble_eq_true rfl) rfl ?_
    refine s_iload_n B dX9_act_23 rfl 3 rfl ?_
    refine s_iconst B dX9_act_24 ic_0 ?_
    refine s_iconst B dX9_act_25 ic_3 ?_
    refine s_callSi B hsc (c_X9_in l D g x0 0 3) (gw_S ml_X9_87 sm_yX9_in ini_RX9 co_yX9_in) hd_X9_in rfl rfl ⟨(Nat.le_of_ble_eq_true rfl), (Nat.le_of_ble_eq_true rfl)⟩ [] [0, 1, 2, 3, 4] rfl rfl rfl rfl rfl (Nat.le_of_ble_eq_true rfl) dX9_act_26 (fun r_3 u_4 hpo => ?_)
    obtain ⟨rfl, rfl⟩ := hpo
    refine s_st (st' := [.int (if ¬ x0 < 0 ∧ ¬ 3 < x0 then 1 else 0)]) rfl ?_
    refine s_ws (ws' := [(b 0, .inr (9, [.int (nI n), .ref (b 1), .ref (b 2), .int (nI p0), .ref (b 3), .ref (b 4), .ref (b 5), .ref (b 6), .ref (b 7), .ref (b 8), .int (I 10), .ref (b 9), .int (nI t), .int (I 13), .int (I 14), .int (I 15), .long W, .int (I 17), .int (I 18), .int (I 19), .int (I 20), .ref (b 10), .ref (b 11), .ref (b 12), .ref (b 13), .ref (b 14), .ref (b 15), .int (nI q), .int (nI mm), .ref (b 16), .ref (b 17), .ref (b 18), .ref (b 19), .ref (b 20), .ref (b 21), .int (I 35), .int (I 36), .int (I 37), .ref (b 22), .int 0, .int (I 40), .int (I 41), .ref (b 23), .int (I 43), .ref (b 24)])), (b 1, .inl (g 0, 32, .inl a_child)), (b 19, .inl (g 0, 4, .inl a_held)), (b 20, .inl (g 0, 4, .inl a_heldNumber)), (b 22, .inl (g 0, 30, .inl a_traced))]) rfl ?_
    refine s_bif_eq (tgt := 42) B dX9_act_29 rfl (fun h29 => ?_) (fun h29 => ?_)
    · refine s_iconst B dX9_act_42 ic_0 ?_
      refine s_iret B hQ hr dX9_act_43 rfl ?_
      exact ⟨(I 35), (I 36), (I 37), 0, a_traced, (I 40), by omega, (ra_no (by clear hQ B hr hsc; grind)), rfl⟩
    · obtain ⟨k_5, hk_6, rfl⟩ := nat_le (N := 3) h29.1 h29.2 (by decide)
      refine s_iload B dX9_act_32 0 rfl ?_
      refine s_iconst B dX9_act_34 ic_0 ?_
      refine s_iconst B dX9_act_35 ic_5 ?_
      refine s_callSi B hsc (c_X9_in l D g (-1) 0 5) (gw_S ml_X9_87 sm_yX9_in ini_RX9 co_yX9_in) hd_X9_in rfl rfl ⟨(Nat.le_of_ble_eq_true rfl), (Nat.le_of_ble_eq_true rfl)⟩ [] [0, 1, 2, 3, 4] rfl rfl rfl rfl rfl (Nat.le_of_ble_eq_true rfl) dX9_act_36 (fun r_9 u_10 hpo => ?_)
      obtain ⟨rfl, rfl⟩ := hpo
      refine s_st (st' := [.int (if ¬ (-1) < 0 ∧ ¬ 5 < (-1) then 1 else 0)]) rfl ?_
      refine s_ws (ws' := [(b 0, .inr (9, [.int (nI n), .ref (b 1), .ref (b 2), .int (nI p0), .ref (b 3), .ref (b 4), .ref (b 5), .ref (b 6), .ref (b 7), .ref (b 8), .int (I 10), .ref (b 9), .int (nI t), .int (I 13), .int (I 14), .int (I 15), .long W, .int (I 17), .int (I 18), .int (I 19), .int (I 20), .ref (b 10), .ref (b 11), .ref (b 12), .ref (b 13), .ref (b 14), .ref (b 15), .int (nI q), .int (nI mm), .ref (b 16), .ref (b 17), .ref (b 18), .ref (b 19), .ref (b 20), .ref (b 21), .int (I 35), .int (I 36), .int (I 37), .ref (b 22), .int 0, .int (I 40), .int (I 41), .ref (b 23), .int (I 43), .ref (b 24)])), (b 1, .inl (g 0, 32, .inl a_child)), (b 19, .inl (g 0, 4, .inl a_held)), (b 20, .inl (g 0, 4, .inl a_heldNumber)), (b 22, .inl (g 0, 30, .inl a_traced))]) rfl ?_
      refine s_bif_ne (tgt := 44) B dX9_act_39 rfl (fun h39 => ?_) (fun h39 => ?_)
      · exact absurd (show (-1 : Int32) < 0 by decide) h39.1
      · refine s_iconst B dX9_act_42 ic_0 ?_
        refine s_iret B hQ hr dX9_act_43 rfl ?_
        exact ⟨(I 35), (I 36), (I 37), 0, a_traced, (I 40), by omega, (ra_no (by clear hQ B hr hsc; have ec0 : (nI k_5).toNatClampNeg = k_5 := nI_clamp (by omega); grind)), rfl⟩
  · obtain ⟨k_7, hk_8, rfl⟩ := nat_le (N := 3) h9.1 h9.2 (by decide)
    refine s_aload_n B dX9_act_12 rfl 0 rfl ?_
    refine s_iload_n B dX9_act_13 rfl 1 rfl ?_
    refine s_callVi B hsc (c_X9_kindOn l D g b I W n p0 t q mm 0 a_child a_held a_heldNumber k_7 (by omega) (by omega) (by omega) (by omega) (by omega) (by omega) (by first | assumption | decide | (intro h9; first | assumption | exact absurd h9 (by decide)) | omega | rfl | (refine ⟨_, ?_, by assumption⟩; omega) | (clear hQ B hr hsc; grind))) (gw_V ml_X9_277 im_yX9_kindOn se_yX9_kindOn ini_RX9 co_yX9_kindOn) hd_X9_kindOn rfl rfl ⟨(Nat.le_of_ble_eq_true rfl), (Nat.le_of_ble_eq_true rfl)⟩ [0, 1, 2, 3] [0, 1, 2, 3, 4] rfl rfl rfl (ci := 9) (q0 := 0) rfl rfl rfl rfl rfl (Nat.le_of_ble_eq_true rfl) dX9_act_14 (fun r_11 u_12 hpo => ?_)
    obtain ⟨hf_13, hf_14, rfl⟩ := hpo
    refine s_ws (ws' := [(b 0, .inr (9, [.int (nI n), .ref (b 1), .ref (b 2), .int (nI p0), .ref (b 3), .ref (b 4), .ref (b 5), .ref (b 6), .ref (b 7), .ref (b 8), .int (I 10), .ref (b 9), .int (nI t), .int (I 13), .int (I 14), .int (I 15), .long W, .int (I 17), .int (I 18), .int (I 19), .int (I 20), .ref (b 10), .ref (b 11), .ref (b 12), .ref (b 13), .ref (b 14), .ref (b 15), .int (nI q), .int (nI mm), .ref (b 16), .ref (b 17), .ref (b 18), .ref (b 19), .ref (b 20), .ref (b 21), .int (I 35), .int (I 36), .int (I 37), .ref (b 22), .int 0, .int (I 40), .int (I 41), .ref (b 23), .int (I 43), .ref (b 24)])), (b 1, .inl (g 0, 32, .inl a_child)), (b 19, .inl (g 0, 4, .inl a_held)), (b 20, .inl (g 0, 4, .inl a_heldNumber)), (b 22, .inl (g 0, 30, .inl a_traced))]) rfl ?_
    refine s_goto (tgt := 21) B dX9_act_17 rfl ?_
    refine s_istore (lv' := [(4, _), (0, _), (1, _), (2, _), (3, _)]) B dX9_act_21 (Nat.le_of_ble_eq_true rfl) rfl ?_
    refine s_iload_n B dX9_act_23 rfl 3 rfl ?_
    refine s_iconst B dX9_act_24 ic_0 ?_
    refine s_iconst B dX9_act_25 ic_3 ?_
    refine s_callSi B hsc (c_X9_in l D g x0 0 3) (gw_S ml_X9_87 sm_yX9_in ini_RX9 co_yX9_in) hd_X9_in rfl rfl ⟨(Nat.le_of_ble_eq_true rfl), (Nat.le_of_ble_eq_true rfl)⟩ [] [0, 1, 2, 3, 4] rfl rfl rfl rfl rfl (Nat.le_of_ble_eq_true rfl) dX9_act_26 (fun r_15 u_16 hpo => ?_)
    obtain ⟨rfl, rfl⟩ := hpo
    refine s_st (st' := [.int (if ¬ x0 < 0 ∧ ¬ 3 < x0 then 1 else 0)]) rfl ?_
    refine s_ws (ws' := [(b 0, .inr (9, [.int (nI n), .ref (b 1), .ref (b 2), .int (nI p0), .ref (b 3), .ref (b 4), .ref (b 5), .ref (b 6), .ref (b 7), .ref (b 8), .int (I 10), .ref (b 9), .int (nI t), .int (I 13), .int (I 14), .int (I 15), .long W, .int (I 17), .int (I 18), .int (I 19), .int (I 20), .ref (b 10), .ref (b 11), .ref (b 12), .ref (b 13), .ref (b 14), .ref (b 15), .int (nI q), .int (nI mm), .ref (b 16), .ref (b 17), .ref (b 18), .ref (b 19), .ref (b 20), .ref (b 21), .int (I 35), .int (I 36), .int (I 37), .ref (b 22), .int 0, .int (I 40), .int (I 41), .ref (b 23), .int (I 43), .ref (b 24)])), (b 1, .inl (g 0, 32, .inl a_child)), (b 19, .inl (g 0, 4, .inl a_held)), (b 20, .inl (g 0, 4, .inl a_heldNumber)), (b 22, .inl (g 0, 30, .inl a_traced))]) rfl ?_
    refine s_bif_eq (tgt := 42) B dX9_act_29 rfl (fun h29 => ?_) (fun h29 => ?_)
    · refine s_iconst B dX9_act_42 ic_0 ?_
      refine s_iret B hQ hr dX9_act_43 rfl ?_
      exact ⟨(I 35), (I 36), (I 37), 0, a_traced, (I 40), by omega, (ra_no (by clear hQ B hr hsc; have ec0 : (nI k_7).toNatClampNeg = k_7 := nI_clamp (by omega); grind)), rfl⟩
    · obtain ⟨k_17, hk_18, rfl⟩ := nat_le (N := 3) h29.1 h29.2 (by decide)
      refine s_iload B dX9_act_32 0 rfl ?_
      refine s_iconst B dX9_act_34 ic_0 ?_
      refine s_iconst B dX9_act_35 ic_5 ?_
      refine s_callSi B hsc (c_X9_in l D g r_11 0 5) (gw_S ml_X9_87 sm_yX9_in ini_RX9 co_yX9_in) hd_X9_in rfl rfl ⟨(Nat.le_of_ble_eq_true rfl), (Nat.le_of_ble_eq_true rfl)⟩ [] [0, 1, 2, 3, 4] rfl rfl rfl rfl rfl (Nat.le_of_ble_eq_true rfl) dX9_act_36 (fun r_19 u_20 hpo => ?_)
      obtain ⟨rfl, rfl⟩ := hpo
      refine s_st (st' := [.int (if ¬ r_11 < 0 ∧ ¬ 5 < r_11 then 1 else 0)]) rfl ?_
      refine s_ws (ws' := [(b 0, .inr (9, [.int (nI n), .ref (b 1), .ref (b 2), .int (nI p0), .ref (b 3), .ref (b 4), .ref (b 5), .ref (b 6), .ref (b 7), .ref (b 8), .int (I 10), .ref (b 9), .int (nI t), .int (I 13), .int (I 14), .int (I 15), .long W, .int (I 17), .int (I 18), .int (I 19), .int (I 20), .ref (b 10), .ref (b 11), .ref (b 12), .ref (b 13), .ref (b 14), .ref (b 15), .int (nI q), .int (nI mm), .ref (b 16), .ref (b 17), .ref (b 18), .ref (b 19), .ref (b 20), .ref (b 21), .int (I 35), .int (I 36), .int (I 37), .ref (b 22), .int 0, .int (I 40), .int (I 41), .ref (b 23), .int (I 43), .ref (b 24)])), (b 1, .inl (g 0, 32, .inl a_child)), (b 19, .inl (g 0, 4, .inl a_held)), (b 20, .inl (g 0, 4, .inl a_heldNumber)), (b 22, .inl (g 0, 30, .inl a_traced))]) rfl ?_
      refine s_bif_ne (tgt := 44) B dX9_act_39 rfl (fun h39 => ?_) (fun h39 => ?_)
      · obtain ⟨k_21, hk_22, rfl⟩ := nat_le (N := 5) h39.1 h39.2 (by decide)
        refine s_aload_n B dX9_act_44 rfl 1 rfl ?_
        refine s_iload B dX9_act_45 0 rfl ?_
        refine s_put (T := TX9) (ws' := [_, _, _, _, _]) B inX9 tyX9_ok nmX9 0 rfl rfl 35 (Nat.le_of_ble_eq_true rfl) fl_X9_295 rfl rfl rfl rfl (Nat.le_of_ble_eq_true rfl) rfl dX9_act_47 ?_
        have hch : ¬ a_heldNumber k_7 < 0 ∧ ¬ nI n - 1 < a_heldNumber k_7 := kon_lt hk_22 hf_13
        refine s_aload_n B dX9_act_50 rfl 1 rfl ?_
        refine s_aload_n B dX9_act_51 rfl 1 rfl ?_
        refine s_get (T := TX9) B inX9 0 rfl rfl 33 (Nat.le_of_ble_eq_true rfl) fl_X9_72 rfl rfl dX9_act_52 ?_
        refine s_iload_n B dX9_act_55 rfl 2 rfl ?_
        refine s_ialdN B 3 0 rfl rfl dX9_act_56 (by omega) (by decide) ?_
        obtain ⟨k_23, hk_24, he_25⟩ := nat_lt1 (N := n) hch.1 hch.2 (by omega)
        refine s_st (st' := [.int (nI k_23), .ref (b 0)]) (by rw [he_25]) ?_
        refine s_put (T := TX9) (ws' := [_, _, _, _, _]) B inX9 tyX9_ok nmX9 0 rfl rfl 36 (Nat.le_of_ble_eq_true rfl) fl_X9_289 rfl rfl rfl rfl (Nat.le_of_ble_eq_true rfl) rfl dX9_act_57 ?_
        refine s_aload_n B dX9_act_60 rfl 1 rfl ?_
        refine s_aload_n B dX9_act_61 rfl 1 rfl ?_
        refine s_aload_n B dX9_act_62 rfl 1 rfl ?_
        refine s_get (T := TX9) B inX9 0 rfl rfl 36 (Nat.le_of_ble_eq_true rfl) fl_X9_289 rfl rfl dX9_act_63 ?_
        refine s_iconst B dX9_act_66 ic_1 ?_
        refine s_callVi B hsc (c_X9_its l D g b (upd (upd (upd (upd (upd (upd I 12 (nI t)) 27 (nI q)) 28 (nI mm)) 35 (nI k_21)) 36 (nI k_23)) 39 0) W n p0 a_child k_23 1 (by omega) (by omega)) (gw_V ml_X9_209 im_yX9_its se_yX9_its ini_RX9 co_yX9_its) hd_X9_its rfl rfl ⟨(Nat.le_of_ble_eq_true rfl), (Nat.le_of_ble_eq_true rfl)⟩ [0, 1] [0, 1, 2, 3, 4] rfl rfl rfl (ci := 9) (q0 := 0) rfl rfl rfl rfl rfl (Nat.le_of_ble_eq_true rfl) dX9_act_67 (fun r_26 u_27 hpo => ?_)
        obtain ⟨rfl, rfl⟩ := hpo
        refine s_st (st' := [.int (a_child (4 * k_23 + 1)), .ref (b 0)]) rfl ?_
        refine s_ws (ws' := [(b 0, .inr (9, [.int (nI n), .ref (b 1), .ref (b 2), .int (nI p0), .ref (b 3), .ref (b 4), .ref (b 5), .ref (b 6), .ref (b 7), .ref (b 8), .int (I 10), .ref (b 9), .int (nI t), .int (I 13), .int (I 14), .int (I 15), .long W, .int (I 17), .int (I 18), .int (I 19), .int (I 20), .ref (b 10), .ref (b 11), .ref (b 12), .ref (b 13), .ref (b 14), .ref (b 15), .int (nI q), .int (nI mm), .ref (b 16), .ref (b 17), .ref (b 18), .ref (b 19), .ref (b 20), .ref (b 21), .int (nI k_21), .int (nI k_23), .int (I 37), .ref (b 22), .int 0, .int (I 40), .int (I 41), .ref (b 23), .int (I 43), .ref (b 24)])), (b 1, .inl (g 0, 32, .inl a_child)), (b 19, .inl (g 0, 4, .inl a_held)), (b 20, .inl (g 0, 4, .inl a_heldNumber)), (b 22, .inl (g 0, 30, .inl a_traced))]) rfl ?_
        refine s_put (T := TX9) (ws' := [_, _, _, _, _]) B inX9 tyX9_ok nmX9 0 rfl rfl 37 (Nat.le_of_ble_eq_true rfl) fl_X9_307 rfl rfl rfl rfl (Nat.le_of_ble_eq_true rfl) rfl dX9_act_70 ?_
        refine s_aload_n B dX9_act_73 rfl 1 rfl ?_
        refine s_iconst B dX9_act_74 ic_0 ?_
        refine s_put (T := TX9) (ws' := [_, _, _, _, _]) B inX9 tyX9_ok nmX9 0 rfl rfl 40 (Nat.le_of_ble_eq_true rfl) fl_X9_310 rfl rfl (by first | rfl | decide) rfl (Nat.le_of_ble_eq_true rfl) rfl dX9_act_75 ?_
        refine s_iload_n B dX9_act_78 rfl 3 rfl ?_
        refine s_if_ne (tgt := 90) B dX9_act_79 rfl (fun h79 => ?_) (fun h79 => ?_)
        · replace h79 : ¬ k_17 = 0 := fun hh => h79 ((nI_eq (a := k_17) (b := 0) (by omega) (by omega)).mpr hh)
          refine s_iload_n B dX9_act_90 rfl 3 rfl ?_
          refine s_iconst B dX9_act_91 ic_1 ?_
          refine s_icmp_ne (tgt := 103) B dX9_act_92 rfl (fun h92 => ?_) (fun h92 => ?_)
          · replace h92 : ¬ k_17 = 1 := fun hh => h92 ((nI_eq (a := k_17) (b := 1) (by omega) (by omega)).mpr hh)
            refine s_iload_n B dX9_act_103 rfl 3 rfl ?_
            refine s_iconst B dX9_act_104 ic_2 ?_
            refine s_icmp_ne (tgt := 116) B dX9_act_105 rfl (fun h105 => ?_) (fun h105 => ?_)
            · replace h105 : ¬ k_17 = 2 := fun hh => h105 ((nI_eq (a := k_17) (b := 2) (by omega) (by omega)).mpr hh)
              refine s_aload_n B dX9_act_116 rfl 1 rfl ?_
              refine s_iload_n B dX9_act_117 rfl 4 rfl ?_
              refine s_callVi B hsc (c_X9_tellsIt l D g b (upd (upd (upd (upd I 35 (nI k_21)) 36 (nI k_23)) 37 (a_child (4 * k_23 + 1))) 40 0) W n p0 t q mm 0 a_traced y0 (by omega) (by omega) (by omega) (by omega) (by omega) (by omega)) (gw_V ml_X9_325 im_yX9_tellsIt se_yX9_tellsIt ini_RX9 co_yX9_tellsIt) hd_X9_tellsIt rfl rfl ⟨(Nat.le_of_ble_eq_true rfl), (Nat.le_of_ble_eq_true rfl)⟩ [0, 4] [0, 1, 2, 3, 4] rfl rfl rfl (ci := 9) (q0 := 0) rfl rfl rfl rfl rfl (Nat.le_of_ble_eq_true rfl) dX9_act_118 (fun r_28 u_29 hpo => ?_)
              obtain ⟨bd_30, a_traced_31, v_32, hf_33, hf_34, rfl⟩ := hpo
              refine s_ws (ws' := [(b 0, .inr (9, [.int (nI n), .ref (b 1), .ref (b 2), .int (nI p0), .ref (b 3), .ref (b 4), .ref (b 5), .ref (b 6), .ref (b 7), .ref (b 8), .int (I 10), .ref (b 9), .int (nI t), .int (I 13), .int (I 14), .int (I 15), .long W, .int (I 17), .int (I 18), .int (I 19), .int (I 20), .ref (b 10), .ref (b 11), .ref (b 12), .ref (b 13), .ref (b 14), .ref (b 15), .int (nI q), .int (nI mm), .ref (b 16), .ref (b 17), .ref (b 18), .ref (b 19), .ref (b 20), .ref (b 21), .int (nI k_21), .int (nI k_23), .int (a_child (4 * k_23 + 1)), .ref (b 22), .int (nI bd_30), .int v_32, .int (I 41), .ref (b 23), .int (I 43), .ref (b 24)])), (b 1, .inl (g 0, 32, .inl a_child)), (b 19, .inl (g 0, 4, .inl a_held)), (b 20, .inl (g 0, 4, .inl a_heldNumber)), (b 22, .inl (g 0, 30, .inl a_traced_31))]) rfl ?_
              refine s_istore (lv' := [(5, _), (4, _), (0, _), (1, _), (2, _), (3, _)]) B dX9_act_121 (Nat.le_of_ble_eq_true rfl) rfl ?_
              refine s_aload_n B dX9_act_123 rfl 2 rfl ?_
              refine s_get (T := TX9) B inX9 0 rfl rfl 40 (Nat.le_of_ble_eq_true rfl) fl_X9_310 rfl rfl dX9_act_124 ?_
              refine s_if_eq (tgt := 135) B dX9_act_127 rfl (fun h127 => ?_) (fun h127 => ?_)
              · refine s_iload B dX9_act_135 0 rfl ?_
                refine s_iret B hQ hr dX9_act_137 rfl ?_
                exact ⟨(nI k_21), (nI k_23), (a_child (4 * k_23 + 1)), bd_30, a_traced_31, v_32, by omega, (by have ec0 : (nI k_7).toNatClampNeg = k_7 := nI_clamp (by omega); have ec1 : (nI k_21).toNatClampNeg = k_21 := nI_clamp (by omega); have ec2 : (nI k_17).toNatClampNeg = k_17 := nI_clamp (by omega); have ec3 : (nI k_23).toNatClampNeg = k_23 := nI_clamp (by omega); exact ra_ok (k := (nI k_21)) (nb := (nI k_23)) (ow := (a_child (4 * k_23 + 1))) (by clear hQ B hr hsc; have ec0 : (nI k_7).toNatClampNeg = k_7 := nI_clamp (by omega); have ec1 : (nI k_21).toNatClampNeg = k_21 := nI_clamp (by omega); have ec2 : (nI k_17).toNatClampNeg = k_17 := nI_clamp (by omega); have ec3 : (nI k_23).toNatClampNeg = k_23 := nI_clamp (by omega); grind) (by rw [ec0]; exact hf_14) (by rw [ec0]; exact he_25.symm) (by rw [ec0, he_25, nI_clamp (by omega)]) (vAns_n (by rw [rAct_3 (fun q => h79 ((nI_eq (a := k_17) (b := 0) (by omega) (by omega)).mp q)) (fun q => h92 ((nI_eq (a := k_17) (b := 1) (by omega) (by omega)).mp q)) (fun q => h105 ((nI_eq (a := k_17) (b := 2) (by omega) (by omega)).mp q))]; exact hf_34) (by first | assumption | rfl))), rfl⟩
              · refine s_bipush B dX9_act_130 bp_m15 ?_
                refine s_goto (tgt := 137) B dX9_act_132 rfl ?_
                refine s_iret B hQ hr dX9_act_137 rfl ?_
                exact ⟨(nI k_21), (nI k_23), (a_child (4 * k_23 + 1)), bd_30, a_traced_31, v_32, by omega, (by have ec0 : (nI k_7).toNatClampNeg = k_7 := nI_clamp (by omega); have ec1 : (nI k_21).toNatClampNeg = k_21 := nI_clamp (by omega); have ec2 : (nI k_17).toNatClampNeg = k_17 := nI_clamp (by omega); have ec3 : (nI k_23).toNatClampNeg = k_23 := nI_clamp (by omega); exact ra_ok (k := (nI k_21)) (nb := (nI k_23)) (ow := (a_child (4 * k_23 + 1))) (by clear hQ B hr hsc; have ec0 : (nI k_7).toNatClampNeg = k_7 := nI_clamp (by omega); have ec1 : (nI k_21).toNatClampNeg = k_21 := nI_clamp (by omega); have ec2 : (nI k_17).toNatClampNeg = k_17 := nI_clamp (by omega); have ec3 : (nI k_23).toNatClampNeg = k_23 := nI_clamp (by omega); grind) (by rw [ec0]; exact hf_14) (by rw [ec0]; exact he_25.symm) (by rw [ec0, he_25, nI_clamp (by omega)]) (vAns_y (by rw [rAct_3 (fun q => h79 ((nI_eq (a := k_17) (b := 0) (by omega) (by omega)).mp q)) (fun q => h92 ((nI_eq (a := k_17) (b := 1) (by omega) (by omega)).mp q)) (fun q => h105 ((nI_eq (a := k_17) (b := 2) (by omega) (by omega)).mp q))]; exact hf_34) (by first | assumption | rfl))), rfl⟩
            · replace h105 : k_17 = 2 := (nI_eq (a := k_17) (b := 2) (by omega) (by omega)).mp h105
              refine s_aload_n B dX9_act_108 rfl 1 rfl ?_
              refine s_iload_n B dX9_act_109 rfl 4 rfl ?_
              refine s_callVi B hsc (c_X9_sharesIt l D g b (upd (upd (upd (upd I 35 (nI k_21)) 36 (nI k_23)) 37 (a_child (4 * k_23 + 1))) 40 0) W n p0 t q mm 0 a_traced y0 (by omega) (by omega) (by omega) (by omega) (by omega) (by omega)) (gw_V ml_X9_322 im_yX9_sharesIt se_yX9_sharesIt ini_RX9 co_yX9_sharesIt) hd_X9_sharesIt rfl rfl ⟨(Nat.le_of_ble_eq_true rfl), (Nat.le_of_ble_eq_true rfl)⟩ [0, 4] [0, 1, 2, 3, 4] rfl rfl rfl (ci := 9) (q0 := 0) rfl rfl rfl rfl rfl (Nat.le_of_ble_eq_true rfl) dX9_act_110 (fun r_35 u_36 hpo => ?_)
              obtain ⟨bd_37, a_traced_38, v_39, hf_40, hf_41, rfl⟩ := hpo
              refine s_ws (ws' := [(b 0, .inr (9, [.int (nI n), .ref (b 1), .ref (b 2), .int (nI p0), .ref (b 3), .ref (b 4), .ref (b 5), .ref (b 6), .ref (b 7), .ref (b 8), .int (I 10), .ref (b 9), .int (nI t), .int (I 13), .int (I 14), .int (I 15), .long W, .int (I 17), .int (I 18), .int (I 19), .int (I 20), .ref (b 10), .ref (b 11), .ref (b 12), .ref (b 13), .ref (b 14), .ref (b 15), .int (nI q), .int (nI mm), .ref (b 16), .ref (b 17), .ref (b 18), .ref (b 19), .ref (b 20), .ref (b 21), .int (nI k_21), .int (nI k_23), .int (a_child (4 * k_23 + 1)), .ref (b 22), .int (nI bd_37), .int v_39, .int (I 41), .ref (b 23), .int (I 43), .ref (b 24)])), (b 1, .inl (g 0, 32, .inl a_child)), (b 19, .inl (g 0, 4, .inl a_held)), (b 20, .inl (g 0, 4, .inl a_heldNumber)), (b 22, .inl (g 0, 30, .inl a_traced_38))]) rfl ?_
              refine s_goto (tgt := 121) B dX9_act_113 rfl ?_
              refine s_istore (lv' := [(5, _), (4, _), (0, _), (1, _), (2, _), (3, _)]) B dX9_act_121 (Nat.le_of_ble_eq_true rfl) rfl ?_
              refine s_aload_n B dX9_act_123 rfl 2 rfl ?_
              refine s_get (T := TX9) B inX9 0 rfl rfl 40 (Nat.le_of_ble_eq_true rfl) fl_X9_310 rfl rfl dX9_act_124 ?_
              refine s_if_eq (tgt := 135) B dX9_act_127 rfl (fun h127 => ?_) (fun h127 => ?_)
              · refine s_iload B dX9_act_135 0 rfl ?_
                refine s_iret B hQ hr dX9_act_137 rfl ?_
                exact ⟨(nI k_21), (nI k_23), (a_child (4 * k_23 + 1)), bd_37, a_traced_38, v_39, by omega, (by have ec0 : (nI k_7).toNatClampNeg = k_7 := nI_clamp (by omega); have ec1 : (nI k_21).toNatClampNeg = k_21 := nI_clamp (by omega); have ec2 : (nI k_17).toNatClampNeg = k_17 := nI_clamp (by omega); have ec3 : (nI k_23).toNatClampNeg = k_23 := nI_clamp (by omega); exact ra_ok (k := (nI k_21)) (nb := (nI k_23)) (ow := (a_child (4 * k_23 + 1))) (by clear hQ B hr hsc; have ec0 : (nI k_7).toNatClampNeg = k_7 := nI_clamp (by omega); have ec1 : (nI k_21).toNatClampNeg = k_21 := nI_clamp (by omega); have ec2 : (nI k_17).toNatClampNeg = k_17 := nI_clamp (by omega); have ec3 : (nI k_23).toNatClampNeg = k_23 := nI_clamp (by omega); grind) (by rw [ec0]; exact hf_14) (by rw [ec0]; exact he_25.symm) (by rw [ec0, he_25, nI_clamp (by omega)]) (vAns_n (by rw [rAct_2 (congrArg nI h105)]; exact hf_41) (by first | assumption | rfl))), rfl⟩
              · refine s_bipush B dX9_act_130 bp_m15 ?_
                refine s_goto (tgt := 137) B dX9_act_132 rfl ?_
                refine s_iret B hQ hr dX9_act_137 rfl ?_
                exact ⟨(nI k_21), (nI k_23), (a_child (4 * k_23 + 1)), bd_37, a_traced_38, v_39, by omega, (by have ec0 : (nI k_7).toNatClampNeg = k_7 := nI_clamp (by omega); have ec1 : (nI k_21).toNatClampNeg = k_21 := nI_clamp (by omega); have ec2 : (nI k_17).toNatClampNeg = k_17 := nI_clamp (by omega); have ec3 : (nI k_23).toNatClampNeg = k_23 := nI_clamp (by omega); exact ra_ok (k := (nI k_21)) (nb := (nI k_23)) (ow := (a_child (4 * k_23 + 1))) (by clear hQ B hr hsc; have ec0 : (nI k_7).toNatClampNeg = k_7 := nI_clamp (by omega); have ec1 : (nI k_21).toNatClampNeg = k_21 := nI_clamp (by omega); have ec2 : (nI k_17).toNatClampNeg = k_17 := nI_clamp (by omega); have ec3 : (nI k_23).toNatClampNeg = k_23 := nI_clamp (by omega); grind) (by rw [ec0]; exact hf_14) (by rw [ec0]; exact he_25.symm) (by rw [ec0, he_25, nI_clamp (by omega)]) (vAns_y (by rw [rAct_2 (congrArg nI h105)]; exact hf_41) (by first | assumption | rfl))), rfl⟩
          · replace h92 : k_17 = 1 := (nI_eq (a := k_17) (b := 1) (by omega) (by omega)).mp h92
            refine s_aload_n B dX9_act_95 rfl 1 rfl ?_
            refine s_iload_n B dX9_act_96 rfl 4 rfl ?_
            refine s_callVi B hsc (c_X9_crossesIt l D g b (upd (upd (upd (upd I 35 (nI k_21)) 36 (nI k_23)) 37 (a_child (4 * k_23 + 1))) 40 0) W n p0 t q mm 0 a_traced y0 (by omega) (by omega) (by omega) (by omega) (by omega) (by omega)) (gw_V ml_X9_316 im_yX9_crossesIt se_yX9_crossesIt ini_RX9 co_yX9_crossesIt) hd_X9_crossesIt rfl rfl ⟨(Nat.le_of_ble_eq_true rfl), (Nat.le_of_ble_eq_true rfl)⟩ [0, 4] [0, 1, 2, 3, 4] rfl rfl rfl (ci := 9) (q0 := 0) rfl rfl rfl rfl rfl (Nat.le_of_ble_eq_true rfl) dX9_act_97 (fun r_42 u_43 hpo => ?_)
            obtain ⟨bd_44, a_traced_45, hf_46, hf_47, rfl⟩ := hpo
            refine s_ws (ws' := [(b 0, .inr (9, [.int (nI n), .ref (b 1), .ref (b 2), .int (nI p0), .ref (b 3), .ref (b 4), .ref (b 5), .ref (b 6), .ref (b 7), .ref (b 8), .int (I 10), .ref (b 9), .int (nI t), .int (I 13), .int (I 14), .int (I 15), .long W, .int (I 17), .int (I 18), .int (I 19), .int (I 20), .ref (b 10), .ref (b 11), .ref (b 12), .ref (b 13), .ref (b 14), .ref (b 15), .int (nI q), .int (nI mm), .ref (b 16), .ref (b 17), .ref (b 18), .ref (b 19), .ref (b 20), .ref (b 21), .int (nI k_21), .int (nI k_23), .int (a_child (4 * k_23 + 1)), .ref (b 22), .int (nI bd_44), .int 0, .int (I 41), .ref (b 23), .int (I 43), .ref (b 24)])), (b 1, .inl (g 0, 32, .inl a_child)), (b 19, .inl (g 0, 4, .inl a_held)), (b 20, .inl (g 0, 4, .inl a_heldNumber)), (b 22, .inl (g 0, 30, .inl a_traced_45))]) rfl ?_
            refine s_goto (tgt := 121) B dX9_act_100 rfl ?_
            refine s_istore (lv' := [(5, _), (4, _), (0, _), (1, _), (2, _), (3, _)]) B dX9_act_121 (Nat.le_of_ble_eq_true rfl) rfl ?_
            refine s_aload_n B dX9_act_123 rfl 2 rfl ?_
            refine s_get (T := TX9) B inX9 0 rfl rfl 40 (Nat.le_of_ble_eq_true rfl) fl_X9_310 rfl rfl dX9_act_124 ?_
            refine s_if_eq (tgt := 135) B dX9_act_127 rfl (fun h127 => ?_) (fun h0 => absurd h0 (by decide))
            refine s_iload B dX9_act_135 0 rfl ?_
            refine s_iret B hQ hr dX9_act_137 rfl ?_
            exact ⟨(nI k_21), (nI k_23), (a_child (4 * k_23 + 1)), bd_44, a_traced_45, 0, by omega, (by have ec0 : (nI k_7).toNatClampNeg = k_7 := nI_clamp (by omega); have ec1 : (nI k_21).toNatClampNeg = k_21 := nI_clamp (by omega); have ec2 : (nI k_17).toNatClampNeg = k_17 := nI_clamp (by omega); have ec3 : (nI k_23).toNatClampNeg = k_23 := nI_clamp (by omega); exact ra_ok (k := (nI k_21)) (nb := (nI k_23)) (ow := (a_child (4 * k_23 + 1))) (by clear hQ B hr hsc; have ec0 : (nI k_7).toNatClampNeg = k_7 := nI_clamp (by omega); have ec1 : (nI k_21).toNatClampNeg = k_21 := nI_clamp (by omega); have ec2 : (nI k_17).toNatClampNeg = k_17 := nI_clamp (by omega); have ec3 : (nI k_23).toNatClampNeg = k_23 := nI_clamp (by omega); grind) (by rw [ec0]; exact hf_14) (by rw [ec0]; exact he_25.symm) (by rw [ec0, he_25, nI_clamp (by omega)]) (vAns_n (by rw [rAct_1 (congrArg nI h92)]; exact hf_47) (by first | assumption | rfl))), rfl⟩
        · replace h79 : k_17 = 0 := (nI_eq (a := k_17) (b := 0) (by omega) (by omega)).mp h79
          refine s_aload_n B dX9_act_82 rfl 1 rfl ?_
          refine s_iload_n B dX9_act_83 rfl 4 rfl ?_
          refine s_callVi B hsc (c_X9_knocksIt l D g b (upd (upd (upd (upd I 35 (nI k_21)) 36 (nI k_23)) 37 (a_child (4 * k_23 + 1))) 40 0) W n p0 t q mm 0 a_traced y0 (by omega) (by omega) (by omega) (by omega) (by omega) (by omega)) (gw_V ml_X9_301 im_yX9_knocksIt se_yX9_knocksIt ini_RX9 co_yX9_knocksIt) hd_X9_knocksIt rfl rfl ⟨(Nat.le_of_ble_eq_true rfl), (Nat.le_of_ble_eq_true rfl)⟩ [0, 4] [0, 1, 2, 3, 4] rfl rfl rfl (ci := 9) (q0 := 0) rfl rfl rfl rfl rfl (Nat.le_of_ble_eq_true rfl) dX9_act_84 (fun r_48 u_49 hpo => ?_)
          obtain ⟨bd_50, a_traced_51, hf_52, hf_53, rfl⟩ := hpo
          refine s_ws (ws' := [(b 0, .inr (9, [.int (nI n), .ref (b 1), .ref (b 2), .int (nI p0), .ref (b 3), .ref (b 4), .ref (b 5), .ref (b 6), .ref (b 7), .ref (b 8), .int (I 10), .ref (b 9), .int (nI t), .int (I 13), .int (I 14), .int (I 15), .long W, .int (I 17), .int (I 18), .int (I 19), .int (I 20), .ref (b 10), .ref (b 11), .ref (b 12), .ref (b 13), .ref (b 14), .ref (b 15), .int (nI q), .int (nI mm), .ref (b 16), .ref (b 17), .ref (b 18), .ref (b 19), .ref (b 20), .ref (b 21), .int (nI k_21), .int (nI k_23), .int (a_child (4 * k_23 + 1)), .ref (b 22), .int (nI bd_50), .int 0, .int (I 41), .ref (b 23), .int (I 43), .ref (b 24)])), (b 1, .inl (g 0, 32, .inl a_child)), (b 19, .inl (g 0, 4, .inl a_held)), (b 20, .inl (g 0, 4, .inl a_heldNumber)), (b 22, .inl (g 0, 30, .inl a_traced_51))]) rfl ?_
          refine s_goto (tgt := 121) B dX9_act_87 rfl ?_
          refine s_istore (lv' := [(5, _), (4, _), (0, _), (1, _), (2, _), (3, _)]) B dX9_act_121 (Nat.le_of_ble_eq_true rfl) rfl ?_
          refine s_aload_n B dX9_act_123 rfl 2 rfl ?_
          refine s_get (T := TX9) B inX9 0 rfl rfl 40 (Nat.le_of_ble_eq_true rfl) fl_X9_310 rfl rfl dX9_act_124 ?_
          refine s_if_eq (tgt := 135) B dX9_act_127 rfl (fun h127 => ?_) (fun h0 => absurd h0 (by decide))
          refine s_iload B dX9_act_135 0 rfl ?_
          refine s_iret B hQ hr dX9_act_137 rfl ?_
          exact ⟨(nI k_21), (nI k_23), (a_child (4 * k_23 + 1)), bd_50, a_traced_51, 0, by omega, (by have ec0 : (nI k_7).toNatClampNeg = k_7 := nI_clamp (by omega); have ec1 : (nI k_21).toNatClampNeg = k_21 := nI_clamp (by omega); have ec2 : (nI k_17).toNatClampNeg = k_17 := nI_clamp (by omega); have ec3 : (nI k_23).toNatClampNeg = k_23 := nI_clamp (by omega); exact ra_ok (k := (nI k_21)) (nb := (nI k_23)) (ow := (a_child (4 * k_23 + 1))) (by clear hQ B hr hsc; have ec0 : (nI k_7).toNatClampNeg = k_7 := nI_clamp (by omega); have ec1 : (nI k_21).toNatClampNeg = k_21 := nI_clamp (by omega); have ec2 : (nI k_17).toNatClampNeg = k_17 := nI_clamp (by omega); have ec3 : (nI k_23).toNatClampNeg = k_23 := nI_clamp (by omega); grind) (by rw [ec0]; exact hf_14) (by rw [ec0]; exact he_25.symm) (by rw [ec0, he_25, nI_clamp (by omega)]) (vAns_n (by rw [rAct_0 (congrArg nI h79)]; exact hf_53) (by first | assumption | rfl))), rfl⟩
      · refine s_iconst B dX9_act_42 ic_0 ?_
        refine s_iret B hQ hr dX9_act_43 rfl ?_
        exact ⟨(I 35), (I 36), (I 37), 0, a_traced, (I 40), by omega, (ra_no (by clear hQ B hr hsc; have ec0 : (nI k_7).toNatClampNeg = k_7 := nI_clamp (by omega); have ec1 : (nI k_17).toNatClampNeg = k_17 := nI_clamp (by omega); grind)), rfl⟩
