def rmX9_days : Room := { frames := 5, cells := 0, slots := 0, locals := 119 }
theorem hd_X9_days : yX9_days.cls = RX9 ∧ yX9_days.cls ≠ "java/lang/invoke/MethodHandle" ∧ yX9_days.cls ≠ "java/lang/invoke/VarHandle" ∧ (parseMethodDescriptor yX9_days.desc).map (fun d => d.parameters.length) = some 1 := by decide +kernel
set_option maxHeartbeats 4000000 in
set_option maxRecDepth 100000 in
theorem c_X9_days (l : Launch) (D : va_G) (g : Nat → ClassId) (b : Nat → Nat) (I : Nat → Int32) (W : Int64) (n p0 t q mm bd : Nat) (a_child : Nat → Int32) (a_row : Nat → Int32) (a_events : Nat → Int32) (a_laws : Nat → Int32) (a_crosses : Nat → Int32) (a_truth : Nat → Int32) (n0 : Int32) (hn : n ≤ 8) (hp : p0 = 0 ∨ p0 = 25) (ht : t ≤ 240) (hq0 : q ≤ 20) (hmm : mm ≤ 20) (hbd : bd ≤ 30) (ok_a_row : RowOk a_row) : Ci l yX9_days (WW yX9_days cX9_days 5 (some FieldType.int)) rmX9_days D vwCl (TY g) [.ref (b 0), .int n0] [(b 0, .inr (9, [.int (nI n), .ref (b 1), .ref (b 2), .int (nI 0), .ref (b 3), .ref (b 4), .ref (b 5), .ref (b 6), .ref (b 7), .ref (b 8), .int (I 10), .ref (b 9), .int (nI t), .int (I 13), .int (I 14), .int (I 15), .long W, .int (I 17), .int (I 18), .int (I 19), .int (I 20), .ref (b 10), .ref (b 11), .ref (b 12), .ref (b 13), .ref (b 14), .ref (b 15), .int (nI q), .int (nI mm), .ref (b 16), .ref (b 17), .ref (b 18), .ref (b 19), .ref (b 20), .ref (b 21), .int (I 35), .int (I 36), .int (I 37), .ref (b 22), .int (nI bd), .int (I 40), .int (I 41), .ref (b 23), .int (I 43), .ref (b 24)])), (b 1, .inl (g 0, 32, .inl a_child)), (b 2, .inl (g 0, 50, .inl a_row)), (b 3, .inl (g 0, 40, .inl a_events)), (b 6, .inl (g 0, 4, .inl a_laws)), (b 4, .inl (g 0, 40, .inl a_crosses)), (b 5, .inl (g 0, 40, .inl a_truth))] (fun r u => ∃ (a_row' : Nat → Int32) (a_crosses' : Nat → Int32) (a_truth' : Nat → Int32), (RowOk a_row') ∧ (∀ (G : MG), RG G n a_child a_row a_events a_crosses a_truth a_laws (I 10) → RG (gDays n0 G) n a_child a_row' a_events a_crosses' a_truth' a_laws (I 10) ∧ r = mDaysR (gTd G) n0) ∧ u = [(b 0, .inr (9, [.int (nI n), .ref (b 1), .ref (b 2), .int (nI 0), .ref (b 3), .ref (b 4), .ref (b 5), .ref (b 6), .ref (b 7), .ref (b 8), .int (I 10), .ref (b 9), .int (nI t), .int (I 13), .int (I 14), .int (I 15), .long W, .int (I 17), .int (I 18), .int (I 19), .int (I 20), .ref (b 10), .ref (b 11), .ref (b 12), .ref (b 13), .ref (b 14), .ref (b 15), .int (nI q), .int (nI mm), .ref (b 16), .ref (b 17), .ref (b 18), .ref (b 19), .ref (b 20), .ref (b 21), .int (I 35), .int (I 36), .int (I 37), .ref (b 22), .int (nI bd), .int (I 40), .int (I 41), .ref (b 23), .int (I 43), .ref (b 24)])), (b 1, .inl (g 0, 32, .inl a_child)), (b 2, .inl (g 0, 50, .inl a_row')), (b 3, .inl (g 0, 40, .inl a_events)), (b 6, .inl (g 0, 4, .inl a_laws)), (b 4, .inl (g 0, 40, .inl a_crosses')), (b 5, .inl (g 0, 40, .inl a_truth'))]) := by
  refine ci_in (by decide) (Nat.le_of_ble_eq_true rfl) (a0 := [b 0, b 1, b 2, b 3, b 6, b 4, b 5]) rfl (fun p e s m args below meth c A Q hQ B hr hsc => ?_)
  refine s_iload_n B dX9_days_0 rfl 1 rfl ?_
  refine s_iconst B dX9_days_1 ic_0 ?_
  refine s_bipush B dX9_days_2 bp_40 ?_
  refine s_callSi B hsc (c_X9_in l D g n0 0 40) (gw_S ml_X9_87 sm_yX9_in ini_RX9 co_yX9_in) hd_X9_in rfl rfl ⟨(Nat.le_of_ble_eq_true rfl), (Nat.le_of_ble_eq_true rfl)⟩ [] [0, 1, 2, 3, 4] rfl rfl rfl rfl rfl (Nat.le_of_ble_eq_true rfl) dX9_days_4 (fun r_1 u_2 hpo => ?_)
  obtain ⟨rfl, rfl⟩ := hpo
  refine s_st (st' := [.int (if ¬ n0 < 0 ∧ ¬ 40 < n0 then 1 else 0)]) rfl ?_
  refine s_ws (ws' := [(b 0, .inr (9, [.int (nI n), .ref (b 1), .ref (b 2), .int (nI 0), .ref (b 3), .ref (b 4), .ref (b 5), .ref (b 6), .ref (b 7), .ref (b 8), .int (I 10), .ref (b 9), .int (nI t), .int (I 13), .int (I 14), .int (I 15), .long W, .int (I 17), .int (I 18), .int (I 19), .int (I 20), .ref (b 10), .ref (b 11), .ref (b 12), .ref (b 13), .ref (b 14), .ref (b 15), .int (nI q), .int (nI mm), .ref (b 16), .ref (b 17), .ref (b 18), .ref (b 19), .ref (b 20), .ref (b 21), .int (I 35), .int (I 36), .int (I 37), .ref (b 22), .int (nI bd), .int (I 40), .int (I 41), .ref (b 23), .int (I 43), .ref (b 24)])), (b 1, .inl (g 0, 32, .inl a_child)), (b 2, .inl (g 0, 50, .inl a_row)), (b 3, .inl (g 0, 40, .inl a_events)), (b 6, .inl (g 0, 4, .inl a_laws)), (b 4, .inl (g 0, 40, .inl a_crosses)), (b 5, .inl (g 0, 40, .inl a_truth))]) rfl ?_
  refine s_bif_ne (tgt := 12) B dX9_days_7 rfl (fun h7 => ?_) (fun h7 => ?_)
  · obtain ⟨k_3, hk_4, rfl⟩ := nat_le (N := 40) h7.1 h7.2 (by decide)
    have L14 : ∀ (jj14 : Nat) (k_5 : Nat) (a_row_7 : Nat → Int32) (a_crosses_8 : Nat → Int32) (a_truth_9 : Nat → Int32), 40 - k_5 < jj14 → (¬ (nI k_3) < 0 ∧ ¬ 40 < (nI k_3)) → (k_3 ≤ 40) → (k_5 ≤ 40) → (RowOk a_row_7) → (k_5 ≤ k_3) → (∀ d : Nat, d ≤ 40 → a_row 0 = nI d → NNr a_row a_laws n 0 → (GoR a_child a_row a_row_7 a_events a_laws n 0 d k_5 ∧ d + k_5 ≤ 40) ∧ a_crosses_8 = mFd (fDI a_child a_row a_events a_laws n 0 d) a_crosses d k_5 ∧ a_truth_9 = mFd (fDI a_child a_row a_events a_laws n 0 d) a_truth d k_5) → Sx p l e rmX9_days s m args below meth c D vwCl A 5 Q 14 [(0, .ref (b 0)), (1, .int (nI k_3)), (2, .int (nI k_5))] [] [(b 0, .inr (9, [.int (nI n), .ref (b 1), .ref (b 2), .int (nI 0), .ref (b 3), .ref (b 4), .ref (b 5), .ref (b 6), .ref (b 7), .ref (b 8), .int (I 10), .ref (b 9), .int (nI t), .int (I 13), .int (I 14), .int (I 15), .long W, .int (I 17), .int (I 18), .int (I 19), .int (I 20), .ref (b 10), .ref (b 11), .ref (b 12), .ref (b 13), .ref (b 14), .ref (b 15), .int (nI q), .int (nI mm), .ref (b 16), .ref (b 17), .ref (b 18), .ref (b 19), .ref (b 20), .ref (b 21), .int (I 35), .int (I 36), .int (I 37), .ref (b 22), .int (nI bd), .int (I 40), .int (I 41), .ref (b 23), .int (I 43), .ref (b 24)])), (b 1, .inl (g 0, 32, .inl a_child)), (b 2, .inl (g 0, 50, .inl a_row_7)), (b 3, .inl (g 0, 40, .inl a_events)), (b 6, .inl (g 0, 4, .inl a_laws)), (b 4, .inl (g 0, 40, .inl a_crosses_8)), (b 5, .inl (g 0, 40, .inl a_truth_9))] := by
      intro jj14
      induction jj14 with
      | zero => intro k_5 a_row_7 a_crosses_8 a_truth_9 hj; exact absurd hj (Nat.not_lt_zero _)
      | succ jj14 ih14 =>
        intro k_5 a_row_7 a_crosses_8 a_truth_9 hj14 h7 hk_4 h_6 ok_a_row_7 hj_10 hG_11
        have M65 : (¬ (nI k_3) < 0 ∧ ¬ 40 < (nI k_3)) → (k_3 ≤ 40) → (k_5 ≤ 40) → (RowOk a_row_7) → (k_5 ≤ k_3) → (∀ d : Nat, d ≤ 40 → a_row 0 = nI d → NNr a_row a_laws n 0 → (GoR a_child a_row a_row_7 a_events a_laws n 0 d k_5 ∧ d + k_5 ≤ 40) ∧ a_crosses_8 = mFd (fDI a_child a_row a_events a_laws n 0 d) a_crosses d k_5 ∧ a_truth_9 = mFd (fDI a_child a_row a_events a_laws n 0 d) a_truth d k_5) → (k_3 ≤ k_5 ∨ a_row_7 0 = nI 40) → Sx p l e rmX9_days s m args below meth c D vwCl A 5 Q 65 [(0, .ref (b 0))] [] [(b 0, .inr (9, [.int (nI n), .ref (b 1), .ref (b 2), .int (nI 0), .ref (b 3), .ref (b 4), .ref (b 5), .ref (b 6), .ref (b 7), .ref (b 8), .int (I 10), .ref (b 9), .int (nI t), .int (I 13), .int (I 14), .int (I 15), .long W, .int (I 17), .int (I 18), .int (I 19), .int (I 20), .ref (b 10), .ref (b 11), .ref (b 12), .ref (b 13), .ref (b 14), .ref (b 15), .int (nI q), .int (nI mm), .ref (b 16), .ref (b 17), .ref (b 18), .ref (b 19), .ref (b 20), .ref (b 21), .int (I 35), .int (I 36), .int (I 37), .ref (b 22), .int (nI bd), .int (I 40), .int (I 41), .ref (b 23), .int (I 43), .ref (b 24)])), (b 1, .inl (g 0, 32, .inl a_child)), (b 2, .inl (g 0, 50, .inl a_row_7)), (b 3, .inl (g 0, 40, .inl a_events)), (b 6, .inl (g 0, 4, .inl a_laws)), (b 4, .inl (g 0, 40, .inl a_crosses_8)), (b 5, .inl (g 0, 40, .inl a_truth_9))] := by
          intro h7 hk_4 h_6 ok_a_row_7 hj_10 hG_11 hJ_22
          refine s_aload_n B dX9_days_65 rfl 0 rfl ?_
          refine s_get (T := TX9) B inX9 0 rfl rfl 2 (Nat.le_of_ble_eq_true rfl) fl_X9_13 rfl rfl dX9_days_66 ?_
          refine s_iconst B dX9_days_69 ic_0 ?_
          refine s_ialdN B 2 0 rfl rfl dX9_days_70 (by decide) (by decide) ?_
          obtain ⟨d_23, hd_24, hr__25⟩ : le40 (a_row_7 0) := RowOk.at ok_a_row_7 (by omega)
          refine s_st (st' := [.int (nI d_23)]) (by rw [hr__25]) ?_
          refine s_iret B hQ hr dX9_days_71 rfl ?_
          exact ⟨a_row_7, a_crosses_8, a_truth_9, ok_a_row_7, (fun G H => (H.daysY (by omega) (hG_11 (gTd G) H.td.2 H.td.1 H.nn).1 (hG_11 (gTd G) H.td.2 H.td.1 H.nn).2.1 (hG_11 (gTd G) H.td.2 H.td.1 H.nn).2.2 (by omega) hJ_22 hr__25 (by omega))), rfl⟩
        refine s_iload_n B dX9_days_14 rfl 2 rfl ?_
        refine s_iload_n B dX9_days_15 rfl 1 rfl ?_
        refine s_icmp_ge (tgt := 65) B dX9_days_16 rfl (fun h16 => ?_) (fun h16 => ?_)
        · replace h16 : k_3 ≤ k_5 := (nI_leI (a := k_3) (b := k_5) (by omega) (by omega)).mp h16
          refine s_lv (lv' := [(0, _)]) [0] rfl ?_
          exact M65  h7 hk_4 h_6 ok_a_row_7 hj_10 hG_11 (Or.inl h16)
        · replace h16 : ¬ k_3 ≤ k_5 := fun hh => h16 ((nI_leI (a := k_3) (b := k_5) (by omega) (by omega)).mpr hh)
          refine s_aload_n B dX9_days_19 rfl 0 rfl ?_
          refine s_get (T := TX9) B inX9 0 rfl rfl 2 (Nat.le_of_ble_eq_true rfl) fl_X9_13 rfl rfl dX9_days_20 ?_
          refine s_iconst B dX9_days_23 ic_0 ?_
          refine s_ialdN B 2 0 rfl rfl dX9_days_24 (by decide) (by decide) ?_
          obtain ⟨d_12, hd_13, hr__14⟩ : le40 (a_row_7 0) := RowOk.at ok_a_row_7 (by omega)
          refine s_st (st' := [.int (nI d_12)]) (by rw [hr__14]) ?_
          refine s_bipush B dX9_days_25 bp_40 ?_
          refine s_icmp_ge (tgt := 65) B dX9_days_27 rfl (fun h27 => ?_) (fun h27 => ?_)
          · replace h27 : 40 ≤ d_12 := (nI_leI (a := 40) (b := d_12) (by omega) (by omega)).mp h27
            refine s_lv (lv' := [(0, _)]) [0] rfl ?_
            exact M65  h7 hk_4 h_6 ok_a_row_7 hj_10 hG_11 (Or.inr (hr__14.trans (by rw [show d_12 = 40 from by omega])))
          · replace h27 : ¬ 40 ≤ d_12 := fun hh => h27 ((nI_leI (a := 40) (b := d_12) (by omega) (by omega)).mpr hh)
            refine s_aload_n B dX9_days_30 rfl 0 rfl ?_
            refine s_get (T := TX9) B inX9 0 rfl rfl 2 (Nat.le_of_ble_eq_true rfl) fl_X9_13 rfl rfl dX9_days_31 ?_
            refine s_iconst B dX9_days_34 ic_0 ?_
            refine s_ialdN B 2 0 rfl rfl dX9_days_35 (by decide) (by decide) ?_
            refine s_st (st' := [.int (nI d_12)]) (by rw [hr__14]) ?_
            refine s_istore_n (lv' := [(3, _), (0, _), (1, _), (2, _)]) B dX9_days_36 rfl (Nat.le_of_ble_eq_true rfl) rfl ?_
            refine s_aload_n B dX9_days_37 rfl 1 rfl ?_
            refine s_callVi B hsc (c_X9_dayGoes l D g b I W n 0 t q mm bd a_child a_row_7 a_events a_laws (by omega) (by omega) (by omega) (by omega) (by omega) (by omega) ok_a_row_7 (by first | assumption | decide | (intro h9; first | assumption | exact absurd h9 (by decide)) | omega | rfl | (refine ⟨_, ?_, by assumption⟩; omega) | (clear hQ B hr hsc; grind))) (gw_V ml_X9_238 im_yX9_dayGoes se_yX9_dayGoes ini_RX9 co_yX9_dayGoes) hd_X9_dayGoes rfl rfl ⟨(Nat.le_of_ble_eq_true rfl), (Nat.le_of_ble_eq_true rfl)⟩ [0, 1, 2, 3, 4] [0, 1, 2, 3, 4] rfl rfl rfl (ci := 9) (q0 := 0) rfl rfl rfl rfl rfl (Nat.le_of_ble_eq_true rfl) dX9_days_38 (fun r_15 u_16 hpo => ?_)
            obtain ⟨a_row_17, ok_a_row_17, hf_18, hf_19, hf_20, hf_21, rfl⟩ := hpo
            refine s_ws (ws' := [(b 0, .inr (9, [.int (nI n), .ref (b 1), .ref (b 2), .int (nI 0), .ref (b 3), .ref (b 4), .ref (b 5), .ref (b 6), .ref (b 7), .ref (b 8), .int (I 10), .ref (b 9), .int (nI t), .int (I 13), .int (I 14), .int (I 15), .long W, .int (I 17), .int (I 18), .int (I 19), .int (I 20), .ref (b 10), .ref (b 11), .ref (b 12), .ref (b 13), .ref (b 14), .ref (b 15), .int (nI q), .int (nI mm), .ref (b 16), .ref (b 17), .ref (b 18), .ref (b 19), .ref (b 20), .ref (b 21), .int (I 35), .int (I 36), .int (I 37), .ref (b 22), .int (nI bd), .int (I 40), .int (I 41), .ref (b 23), .int (I 43), .ref (b 24)])), (b 1, .inl (g 0, 32, .inl a_child)), (b 2, .inl (g 0, 50, .inl a_row_17)), (b 3, .inl (g 0, 40, .inl a_events)), (b 6, .inl (g 0, 4, .inl a_laws)), (b 4, .inl (g 0, 40, .inl a_crosses_8)), (b 5, .inl (g 0, 40, .inl a_truth_9))]) rfl ?_
            refine s_istore (lv' := [(4, _), (3, _), (0, _), (1, _), (2, _)]) B dX9_days_41 (Nat.le_of_ble_eq_true rfl) rfl ?_
            refine s_aload_n B dX9_days_43 rfl 2 rfl ?_
            refine s_get (T := TX9) B inX9 0 rfl rfl 5 (Nat.le_of_ble_eq_true rfl) fl_X9_19 rfl rfl dX9_days_44 ?_
            refine s_iload_n B dX9_days_47 rfl 1 rfl ?_
            refine s_iload B dX9_days_48 0 rfl ?_
            refine s_iastN (ws' := [_, _, _, _, _, _, _]) B 5 0 rfl rfl rfl dX9_days_50 (by omega) (by decide) ?_
            refine s_aload_n B dX9_days_51 rfl 2 rfl ?_
            refine s_get (T := TX9) B inX9 0 rfl rfl 6 (Nat.le_of_ble_eq_true rfl) fl_X9_22 rfl rfl dX9_days_52 ?_
            refine s_iload_n B dX9_days_55 rfl 1 rfl ?_
            refine s_iload B dX9_days_56 0 rfl ?_
            refine s_iastN (ws' := [_, _, _, _, _, _, _]) B 6 0 rfl rfl rfl dX9_days_58 (by omega) (by decide) ?_
            refine s_iinc (lv' := [(2, _), (4, _), (3, _), (0, _), (1, _)]) (k := 4) B dX9_days_59 rfl (ii_n _) (Nat.le_of_ble_eq_true rfl) rfl ?_
            refine s_goto (tgt := 14) B dX9_days_62 rfl ?_
            refine s_lv (lv' := [(0, _), (1, _), (2, _)]) [3, 4, 0] rfl ?_
            exact ih14 (k_5 + 1) a_row_17 (upd a_crosses_8 d_12 r_15) (upd a_truth_9 d_12 r_15) (by omega) h7 hk_4 (by omega) ok_a_row_17 (by omega) (fun d hd h nn => go_y hn (hG_11 d hd h nn) hr__14 (by omega) (by assumption) hf_20)
    refine s_iconst B dX9_days_12 ic_0 ?_
    refine s_istore_n (lv' := [(2, _), (0, _), (1, _)]) B dX9_days_13 rfl (Nat.le_of_ble_eq_true rfl) rfl ?_
    refine s_lv (lv' := [(0, _), (1, _), (2, _)]) [1, 2, 0] rfl ?_
    refine s_lve (lv' := [(0, .ref (b 0)), (1, .int (nI k_3)), (2, .int (nI 0))]) (by first | rfl | (simp only [if_pos, if_neg]; done)) ?_
    exact L14 _ 0 a_row a_crosses a_truth (Nat.lt_succ_self _) h7 hk_4 (by omega) ok_a_row (by omega) (fun d hd h nn => ⟨⟨GoR_0 h nn, by omega⟩, mFd_0 _ _ _, mFd_0 _ _ _⟩)
  · refine s_iconst B dX9_days_10 ic_m1 ?_
    refine s_iret B hQ hr dX9_days_11 rfl ?_
    exact ⟨a_row, a_crosses, a_truth, ok_a_row, (fun G H => (H.daysN h7)), rfl⟩
def rmX9_knocks : Room := { frames := 1, cells := 0, slots := 0, locals := 22 }
theorem hd_X9_knocks : yX9_knocks.cls = RX9 ∧ yX9_knocks.cls ≠ "java/lang/invoke/MethodHandle" ∧ yX9_knocks.cls ≠ "java/lang/invoke/VarHandle" ∧ (parseMethodDescriptor yX9_knocks.desc).map (fun d => d.parameters.length) = some 1 := by decide +kernel
set_option maxHeartbeats 4000000 in
set_option maxRecDepth 100000 in
theorem c_X9_knocks (l : Launch) (D : va_G) (g : Nat → ClassId) (b : Nat → Nat) (I : Nat → Int32) (W : Int64) (n p0 t q mm bd : Nat) (a_child : Nat → Int32) (a_row : Nat → Int32) (a_laws : Nat → Int32) (h0 : Int32) (hn : n ≤ 8) (hp : p0 = 0 ∨ p0 = 25) (ht : t ≤ 240) (hq0 : q ≤ 20) (hmm : mm ≤ 20) (hbd : bd ≤ 30) (ok_a_row : RowOk a_row) : Ci l yX9_knocks (WW yX9_knocks cX9_knocks 4 (some FieldType.int)) rmX9_knocks D vwCl (TY g) [.ref (b 0), .int h0] [(b 0, .inr (9, [.int (nI n), .ref (b 1), .ref (b 2), .int (nI p0), .ref (b 3), .ref (b 4), .ref (b 5), .ref (b 6), .ref (b 7), .ref (b 8), .int (I 10), .ref (b 9), .int (nI t), .int (I 13), .int (I 14), .int (I 15), .long W, .int (I 17), .int (I 18), .int (I 19), .int (I 20), .ref (b 10), .ref (b 11), .ref (b 12), .ref (b 13), .ref (b 14), .ref (b 15), .int (nI q), .int (nI mm), .ref (b 16), .ref (b 17), .ref (b 18), .ref (b 19), .ref (b 20), .ref (b 21), .int (I 35), .int (I 36), .int (I 37), .ref (b 22), .int (nI bd), .int (I 40), .int (I 41), .ref (b 23), .int (I 43), .ref (b 24)])), (b 1, .inl (g 0, 32, .inl a_child)), (b 2, .inl (g 0, 50, .inl a_row)), (b 6, .inl (g 0, 4, .inl a_laws))] (fun r u => ∃ (a_row' : Nat → Int32), (RowOk a_row') ∧ (a_row' 0 = a_row 0) ∧ (p0 = 25 → ∀ j : Nat, j < 25 → a_row' j = a_row j) ∧ (KnB a_child a_laws h0 a_row a_row' p0 n ∧ r = nI (mCt (kB h0 a_child) n)) ∧ u = [(b 0, .inr (9, [.int (nI n), .ref (b 1), .ref (b 2), .int (nI p0), .ref (b 3), .ref (b 4), .ref (b 5), .ref (b 6), .ref (b 7), .ref (b 8), .int (I 10), .ref (b 9), .int (nI t), .int (I 13), .int (I 14), .int (I 15), .long W, .int (I 17), .int (I 18), .int (I 19), .int (I 20), .ref (b 10), .ref (b 11), .ref (b 12), .ref (b 13), .ref (b 14), .ref (b 15), .int (nI q), .int (nI mm), .ref (b 16), .ref (b 17), .ref (b 18), .ref (b 19), .ref (b 20), .ref (b 21), .int (I 35), .int (I 36), .int (I 37), .ref (b 22), .int (nI bd), .int (I 40), .int (I 41), .ref (b 23), .int (I 43), .ref (b 24)])), (b 1, .inl (g 0, 32, .inl a_child)), (b 2, .inl (g 0, 50, .inl a_row')), (b 6, .inl (g 0, 4, .inl a_laws))]) := by
  refine ci_in (by decide) (Nat.le_of_ble_eq_true rfl) (a0 := [b 0, b 1, b 2, b 6]) rfl (fun p e s m args below meth c A Q hQ B hr hsc => ?_)
  have L4 : ∀ (jj4 : Nat) (v_1 : Int32) (k_2 : Nat) (a_row_4 : Nat → Int32), n - k_2 < jj4 → (k_2 ≤ n) → (RowOk a_row_4) → (a_row_4 0 = a_row 0) → (p0 = 25 → ∀ j : Nat, j < 25 → a_row_4 j = a_row j) → (KnB a_child a_laws h0 a_row a_row_4 p0 k_2 ∧ v_1 = nI (mCt (kB h0 a_child) k_2)) → Sx p l e rmX9_knocks s m args below meth c D vwCl A 4 Q 4 [(0, .ref (b 0)), (1, .int h0), (2, .int v_1), (3, .int (nI k_2))] [] [(b 0, .inr (9, [.int (nI n), .ref (b 1), .ref (b 2), .int (nI p0), .ref (b 3), .ref (b 4), .ref (b 5), .ref (b 6), .ref (b 7), .ref (b 8), .int (I 10), .ref (b 9), .int (nI t), .int (I 13), .int (I 14), .int (I 15), .long W, .int (I 17), .int (I 18), .int (I 19), .int (I 20), .ref (b 10), .ref (b 11), .ref (b 12), .ref (b 13), .ref (b 14), .ref (b 15), .int (nI q), .int (nI mm), .ref (b 16), .ref (b 17), .ref (b 18), .ref (b 19), .ref (b 20), .ref (b 21), .int (I 35), .int (I 36), .int (I 37), .ref (b 22), .int (nI bd), .int (I 40), .int (I 41), .ref (b 23), .int (I 43), .ref (b 24)])), (b 1, .inl (g 0, 32, .inl a_child)), (b 2, .inl (g 0, 50, .inl a_row_4)), (b 6, .inl (g 0, 4, .inl a_laws))] := by
    intro jj4
    induction jj4 with
    | zero => intro v_1 k_2 a_row_4 hj; exact absurd hj (Nat.not_lt_zero _)
    | succ jj4 ih4 =>
      intro v_1 k_2 a_row_4 hj4 h_3 ok_a_row_4 hz_5 hy_6 hK_7
      have M49 : ∀ (v_10 : Int32) (a_row_11 : Nat → Int32), (k_2 ≤ n) → (RowOk a_row_4) → (a_row_4 0 = a_row 0) → (p0 = 25 → ∀ j : Nat, j < 25 → a_row_4 j = a_row j) → (KnB a_child a_laws h0 a_row a_row_4 p0 k_2 ∧ v_1 = nI (mCt (kB h0 a_child) k_2)) → (¬ n ≤ k_2) → (RowOk a_row_11) → (a_row_11 0 = a_row 0) → (p0 = 25 → ∀ j : Nat, j < 25 → a_row_11 j = a_row j) → (KnB a_child a_laws h0 a_row a_row_11 p0 (k_2 + 1) ∧ v_10 = nI (mCt (kB h0 a_child) (k_2 + 1))) → Sx p l e rmX9_knocks s m args below meth c D vwCl A 4 Q 49 [(0, .ref (b 0)), (1, .int h0), (2, .int v_10), (3, .int (nI k_2))] [] [(b 0, .inr (9, [.int (nI n), .ref (b 1), .ref (b 2), .int (nI p0), .ref (b 3), .ref (b 4), .ref (b 5), .ref (b 6), .ref (b 7), .ref (b 8), .int (I 10), .ref (b 9), .int (nI t), .int (I 13), .int (I 14), .int (I 15), .long W, .int (I 17), .int (I 18), .int (I 19), .int (I 20), .ref (b 10), .ref (b 11), .ref (b 12), .ref (b 13), .ref (b 14), .ref (b 15), .int (nI q), .int (nI mm), .ref (b 16), .ref (b 17), .ref (b 18), .ref (b 19), .ref (b 20), .ref (b 21), .int (I 35), .int (I 36), .int (I 37), .ref (b 22), .int (nI bd), .int (I 40), .int (I 41), .ref (b 23), .int (I 43), .ref (b 24)])), (b 1, .inl (g 0, 32, .inl a_child)), (b 2, .inl (g 0, 50, .inl a_row_11)), (b 6, .inl (g 0, 4, .inl a_laws))] := by
        intro v_10 a_row_11 h_3 ok_a_row_4 hz_5 hy_6 hK_7 h9 ok_a_row_11 hz_12 hy_13 hK_14
        refine s_iinc (lv' := [(3, _), (0, _), (1, _), (2, _)]) (k := 3) B dX9_knocks_49 rfl (ii_n _) (Nat.le_of_ble_eq_true rfl) rfl ?_
        refine s_goto (tgt := 4) B dX9_knocks_52 rfl ?_
        refine s_lv (lv' := [(0, _), (1, _), (2, _), (3, _)]) [1, 2, 3, 0] rfl ?_
        exact ih4 v_10 (k_2 + 1) a_row_11 (by omega) (by omega) ok_a_row_11 (hz_12.trans rfl) (fun hz j hj => ((hy_13 hz j hj).trans rfl)) hK_14
      refine s_iload_n B dX9_knocks_4 rfl 3 rfl ?_
      refine s_aload_n B dX9_knocks_5 rfl 0 rfl ?_
      refine s_get (T := TX9) B inX9 0 rfl rfl 0 (Nat.le_of_ble_eq_true rfl) fl_X9_91 rfl rfl dX9_knocks_6 ?_
      refine s_icmp_ge (tgt := 55) B dX9_knocks_9 rfl (fun h9 => ?_) (fun h9 => ?_)
      · replace h9 : n ≤ k_2 := (nI_leI (a := n) (b := k_2) (by omega) (by omega)).mp h9
        refine s_iload_n B dX9_knocks_55 rfl 2 rfl ?_
        refine s_iret B hQ hr dX9_knocks_56 rfl ?_
        exact ⟨a_row_4, ok_a_row_4, (hz_5.trans rfl), (fun hz j hj => ((hy_6 hz j hj).trans rfl)), (by have e9 : k_2 = n := (by omega); have w9 := hK_7; rw [e9] at w9; exact w9), rfl⟩
      · replace h9 : ¬ n ≤ k_2 := fun hh => h9 ((nI_leI (a := n) (b := k_2) (by omega) (by omega)).mpr hh)
        refine s_iload_n B dX9_knocks_12 rfl 1 rfl ?_
        refine s_aload_n B dX9_knocks_13 rfl 0 rfl ?_
        refine s_iload_n B dX9_knocks_14 rfl 3 rfl ?_
        refine s_iconst B dX9_knocks_15 ic_2 ?_
        refine s_callVi B hsc (c_X9_its l D g b (upd (upd (upd (upd I 12 (nI t)) 27 (nI q)) 28 (nI mm)) 39 (nI bd)) W n p0 a_child k_2 2 (by omega) (by omega)) (gw_V ml_X9_209 im_yX9_its se_yX9_its ini_RX9 co_yX9_its) hd_X9_its rfl rfl ⟨(Nat.le_of_ble_eq_true rfl), (Nat.le_of_ble_eq_true rfl)⟩ [0, 1] [0, 1, 2, 3, 4] rfl rfl rfl (ci := 9) (q0 := 0) rfl rfl rfl rfl rfl (Nat.le_of_ble_eq_true rfl) dX9_knocks_16 (fun r_8 u_9 hpo => ?_)
        obtain ⟨rfl, rfl⟩ := hpo
        refine s_st (st' := [.int (a_child (4 * k_2 + 2)), .int h0]) rfl ?_
        refine s_ws (ws' := [(b 0, .inr (9, [.int (nI n), .ref (b 1), .ref (b 2), .int (nI p0), .ref (b 3), .ref (b 4), .ref (b 5), .ref (b 6), .ref (b 7), .ref (b 8), .int (I 10), .ref (b 9), .int (nI t), .int (I 13), .int (I 14), .int (I 15), .long W, .int (I 17), .int (I 18), .int (I 19), .int (I 20), .ref (b 10), .ref (b 11), .ref (b 12), .ref (b 13), .ref (b 14), .ref (b 15), .int (nI q), .int (nI mm), .ref (b 16), .ref (b 17), .ref (b 18), .ref (b 19), .ref (b 20), .ref (b 21), .int (I 35), .int (I 36), .int (I 37), .ref (b 22), .int (nI bd), .int (I 40), .int (I 41), .ref (b 23), .int (I 43), .ref (b 24)])), (b 1, .inl (g 0, 32, .inl a_child)), (b 2, .inl (g 0, 50, .inl a_row_4)), (b 6, .inl (g 0, 4, .inl a_laws))]) rfl ?_
        refine s_ishr B dX9_knocks_19 ?_
        refine s_iconst B dX9_knocks_20 ic_1 ?_
        refine s_iand B dX9_knocks_21 ?_
        refine s_iconst B dX9_knocks_22 ic_1 ?_
        refine s_icmp_ne (tgt := 49) B dX9_knocks_23 rfl (fun h23 => ?_) (fun h23 => ?_)
        · refine s_lv (lv' := [(0, _), (1, _), (2, _), (3, _)]) [0, 1, 2, 3] rfl ?_
          exact M49 v_1 a_row_4 h_3 ok_a_row_4 hz_5 hy_6 hK_7 h9 ok_a_row_4 (hz_5.trans rfl) (fun hz j hj => ((hy_6 hz j hj).trans rfl)) (KnB_n hK_7 h23)
        · refine s_aload_n B dX9_knocks_26 rfl 0 rfl ?_
          refine s_get (T := TX9) B inX9 0 rfl rfl 2 (Nat.le_of_ble_eq_true rfl) fl_X9_13 rfl rfl dX9_knocks_27 ?_
          refine s_aload_n B dX9_knocks_30 rfl 0 rfl ?_
          refine s_get (T := TX9) B inX9 0 rfl rfl 3 (Nat.le_of_ble_eq_true rfl) fl_X9_222 rfl rfl dX9_knocks_31 ?_
          refine s_bipush B dX9_knocks_34 bp_9 ?_
          refine s_iaddE B dX9_knocks_36 (nI_add p0 9) ?_
          refine s_iload_n B dX9_knocks_37 rfl 3 rfl ?_
          refine s_iaddE B dX9_knocks_38 (nI_add (p0 + 9) k_2) ?_
          refine s_aload_n B dX9_knocks_39 rfl 0 rfl ?_
          refine s_get (T := TX9) B inX9 0 rfl rfl 7 (Nat.le_of_ble_eq_true rfl) fl_X9_25 rfl rfl dX9_knocks_40 ?_
          refine s_iconst B dX9_knocks_43 ic_0 ?_
          refine s_ialdN B 3 0 rfl rfl dX9_knocks_44 (by decide) (by decide) ?_
          refine s_iastN (ws' := [_, _, _, _]) B 2 0 rfl rfl rfl dX9_knocks_45 (by omega) (by decide) ?_
          refine s_iinc (lv' := [(2, _), (0, _), (1, _), (3, _)]) (k := 2) B dX9_knocks_46 rfl (ii_x _ ic_1) (Nat.le_of_ble_eq_true rfl) rfl ?_
          refine s_lv (lv' := [(0, _), (1, _), (2, _), (3, _)]) [1, 2, 0, 3] rfl ?_
          exact M49 (v_1 + 1) (upd a_row_4 ((p0 + 9) + k_2) (a_laws 0)) h_3 ok_a_row_4 hz_5 hy_6 hK_7 h9 (RowOk.set ok_a_row_4 (by omega) (by omega)) ((upd_ne _ _ (by omega)).trans (hz_5.trans rfl)) (fun hz j hj => ((upd_ne _ _ (by omega)).trans ((hy_6 hz j hj).trans rfl))) (KnB_y hK_7 (by omega) h23)
  refine s_iconst B dX9_knocks_0 ic_0 ?_
  refine s_istore_n (lv' := [(2, _), (0, _), (1, _)]) B dX9_knocks_1 rfl (Nat.le_of_ble_eq_true rfl) rfl ?_
  refine s_iconst B dX9_knocks_2 ic_0 ?_
  refine s_istore_n (lv' := [(3, _), (2, _), (0, _), (1, _)]) B dX9_knocks_3 rfl (Nat.le_of_ble_eq_true rfl) rfl ?_
  refine s_lv (lv' := [(0, _), (1, _), (2, _), (3, _)]) [2, 3, 1, 0] rfl ?_
  refine s_lve (lv' := [(0, .ref (b 0)), (1, .int h0), (2, .int 0), (3, .int (nI 0))]) (by first | rfl | (simp only [if_pos, if_neg]; done)) ?_
  exact L4 _ 0 0 a_row (Nat.lt_succ_self _) (by omega) ok_a_row rfl (fun hz j hj => rfl) (KnB_0 rfl)
def rmX9_knock : Room := { frames := 2, cells := 0, slots := 0, locals := 45 }
theorem hd_X9_knock : yX9_knock.cls = RX9 ∧ yX9_knock.cls ≠ "java/lang/invoke/MethodHandle" ∧ yX9_knock.cls ≠ "java/lang/invoke/VarHandle" ∧ (parseMethodDescriptor yX9_knock.desc).map (fun d => d.parameters.length) = some 1 := by decide +kernel
set_option maxHeartbeats 4000000 in
set_option maxRecDepth 100000 in
theorem c_X9_knock (l : Launch) (D : va_G) (g : Nat → ClassId) (b : Nat → Nat) (I : Nat → Int32) (W : Int64) (n p0 t q mm bd : Nat) (a_child : Nat → Int32) (a_row : Nat → Int32) (a_laws : Nat → Int32) (h0 : Int32) (hn : n ≤ 8) (hp : p0 = 0 ∨ p0 = 25) (ht : t ≤ 240) (hq0 : q ≤ 20) (hmm : mm ≤ 20) (hbd : bd ≤ 30) (ok_a_row : RowOk a_row) : Ci l yX9_knock (WW yX9_knock cX9_knock 2 (some FieldType.int)) rmX9_knock D vwCl (TY g) [.ref (b 0), .int h0] [(b 0, .inr (9, [.int (nI n), .ref (b 1), .ref (b 2), .int (nI 0), .ref (b 3), .ref (b 4), .ref (b 5), .ref (b 6), .ref (b 7), .ref (b 8), .int (I 10), .ref (b 9), .int (nI t), .int (I 13), .int (I 14), .int (I 15), .long W, .int (I 17), .int (I 18), .int (I 19), .int (I 20), .ref (b 10), .ref (b 11), .ref (b 12), .ref (b 13), .ref (b 14), .ref (b 15), .int (nI q), .int (nI mm), .ref (b 16), .ref (b 17), .ref (b 18), .ref (b 19), .ref (b 20), .ref (b 21), .int (I 35), .int (I 36), .int (I 37), .ref (b 22), .int (nI bd), .int (I 40), .int (I 41), .ref (b 23), .int (I 43), .ref (b 24)])), (b 1, .inl (g 0, 32, .inl a_child)), (b 2, .inl (g 0, 50, .inl a_row)), (b 6, .inl (g 0, 4, .inl a_laws))] (fun r u => ∃ (a_row' : Nat → Int32), (RowOk a_row') ∧ (∀ (G : MG) (ev9 cr9 tr9 : MA), RG G n a_child a_row ev9 cr9 tr9 a_laws (I 10) → RG (gKnock h0 G) n a_child a_row' ev9 cr9 tr9 a_laws (I 10) ∧ r = aKnock h0 G) ∧ u = [(b 0, .inr (9, [.int (nI n), .ref (b 1), .ref (b 2), .int (nI 0), .ref (b 3), .ref (b 4), .ref (b 5), .ref (b 6), .ref (b 7), .ref (b 8), .int (I 10), .ref (b 9), .int (nI t), .int (I 13), .int (I 14), .int (I 15), .long W, .int (I 17), .int (I 18), .int (I 19), .int (I 20), .ref (b 10), .ref (b 11), .ref (b 12), .ref (b 13), .ref (b 14), .ref (b 15), .int (nI q), .int (nI mm), .ref (b 16), .ref (b 17), .ref (b 18), .ref (b 19), .ref (b 20), .ref (b 21), .int (I 35), .int (I 36), .int (I 37), .ref (b 22), .int (nI bd), .int (I 40), .int (I 41), .ref (b 23), .int (I 43), .ref (b 24)])), (b 1, .inl (g 0, 32, .inl a_child)), (b 2, .inl (g 0, 50, .inl a_row')), (b 6, .inl (g 0, 4, .inl a_laws))]) := by
  refine ci_in (by decide) (Nat.le_of_ble_eq_true rfl) (a0 := [b 0, b 1, b 2, b 6]) rfl (fun p e s m args below meth c A Q hQ B hr hsc => ?_)
  refine s_iload_n B dX9_knock_0 rfl 1 rfl ?_
  refine s_iconst B dX9_knock_1 ic_0 ?_
  refine s_iconst B dX9_knock_2 ic_5 ?_
  refine s_callSi B hsc (c_X9_in l D g h0 0 5) (gw_S ml_X9_87 sm_yX9_in ini_RX9 co_yX9_in) hd_X9_in rfl rfl ⟨(Nat.le_of_ble_eq_true rfl), (Nat.le_of_ble_eq_true rfl)⟩ [] [0, 1, 2, 3, 4] rfl rfl rfl rfl rfl (Nat.le_of_ble_eq_true rfl) dX9_knock_3 (fun r_1 u_2 hpo => ?_)
  obtain ⟨rfl, rfl⟩ := hpo
  refine s_st (st' := [.int (if ¬ h0 < 0 ∧ ¬ 5 < h0 then 1 else 0)]) rfl ?_
  refine s_ws (ws' := [(b 0, .inr (9, [.int (nI n), .ref (b 1), .ref (b 2), .int (nI 0), .ref (b 3), .ref (b 4), .ref (b 5), .ref (b 6), .ref (b 7), .ref (b 8), .int (I 10), .ref (b 9), .int (nI t), .int (I 13), .int (I 14), .int (I 15), .long W, .int (I 17), .int (I 18), .int (I 19), .int (I 20), .ref (b 10), .ref (b 11), .ref (b 12), .ref (b 13), .ref (b 14), .ref (b 15), .int (nI q), .int (nI mm), .ref (b 16), .ref (b 17), .ref (b 18), .ref (b 19), .ref (b 20), .ref (b 21), .int (I 35), .int (I 36), .int (I 37), .ref (b 22), .int (nI bd), .int (I 40), .int (I 41), .ref (b 23), .int (I 43), .ref (b 24)])), (b 1, .inl (g 0, 32, .inl a_child)), (b 2, .inl (g 0, 50, .inl a_row)), (b 6, .inl (g 0, 4, .inl a_laws))]) rfl ?_
  refine s_bif_eq (tgt := 19) B dX9_knock_6 rfl (fun h6 => ?_) (fun h6 => ?_)
  · refine s_iconst B dX9_knock_19 ic_m1 ?_
    refine s_iret B hQ hr dX9_knock_20 rfl ?_
    exact ⟨a_row, ok_a_row, (fun G ev9 cr9 tr9 H => (H.knock_no (by assumption))), rfl⟩
  · obtain ⟨k_3, hk_4, rfl⟩ := nat_le (N := 5) h6.1 h6.2 (by decide)
    refine s_aload_n B dX9_knock_9 rfl 0 rfl ?_
    refine s_iconst B dX9_knock_10 ic_1 ?_
    refine s_iload_n B dX9_knock_11 rfl 1 rfl ?_
    refine s_ishl B dX9_knock_12 ?_
    refine s_callVi B hsc (c_X9_knocks l D g b I W n 0 t q mm bd a_child a_row a_laws (1 <<< ((nI k_3) &&& 31)) (by omega) (by omega) (by omega) (by omega) (by omega) (by omega) ok_a_row) (gw_V ml_X9_241 im_yX9_knocks se_yX9_knocks ini_RX9 co_yX9_knocks) hd_X9_knocks rfl rfl ⟨(Nat.le_of_ble_eq_true rfl), (Nat.le_of_ble_eq_true rfl)⟩ [0, 1, 2, 3] [0, 1, 2, 3, 4] rfl rfl rfl (ci := 9) (q0 := 0) rfl rfl rfl rfl rfl (Nat.le_of_ble_eq_true rfl) dX9_knock_13 (fun r_5 u_6 hpo => ?_)
    obtain ⟨a_row_7, ok_a_row_7, hf_8, hf_9, hf_10, rfl⟩ := hpo
    refine s_ws (ws' := [(b 0, .inr (9, [.int (nI n), .ref (b 1), .ref (b 2), .int (nI 0), .ref (b 3), .ref (b 4), .ref (b 5), .ref (b 6), .ref (b 7), .ref (b 8), .int (I 10), .ref (b 9), .int (nI t), .int (I 13), .int (I 14), .int (I 15), .long W, .int (I 17), .int (I 18), .int (I 19), .int (I 20), .ref (b 10), .ref (b 11), .ref (b 12), .ref (b 13), .ref (b 14), .ref (b 15), .int (nI q), .int (nI mm), .ref (b 16), .ref (b 17), .ref (b 18), .ref (b 19), .ref (b 20), .ref (b 21), .int (I 35), .int (I 36), .int (I 37), .ref (b 22), .int (nI bd), .int (I 40), .int (I 41), .ref (b 23), .int (I 43), .ref (b 24)])), (b 1, .inl (g 0, 32, .inl a_child)), (b 2, .inl (g 0, 50, .inl a_row_7)), (b 6, .inl (g 0, 4, .inl a_laws))]) rfl ?_
    refine s_goto (tgt := 20) B dX9_knock_16 rfl ?_
    refine s_iret B hQ hr dX9_knock_20 rfl ?_
    exact ⟨a_row_7, ok_a_row_7, (fun G ev9 cr9 tr9 H => (H.knock_ok (by omega) hf_10)), rfl⟩
def rmX9_write : Room := { frames := 2, cells := 0, slots := 0, locals := 43 }
theorem hd_X9_write : yX9_write.cls = RX9 ∧ yX9_write.cls ≠ "java/lang/invoke/MethodHandle" ∧ yX9_write.cls ≠ "java/lang/invoke/VarHandle" ∧ (parseMethodDescriptor yX9_write.desc).map (fun d => d.parameters.length) = some 3 := by decide +kernel
set_option maxHeartbeats 4000000 in
set_option maxRecDepth 100000 in
theorem c_X9_write (l : Launch) (D : va_G) (g : Nat → ClassId) (b : Nat → Nat) (I : Nat → Int32) (W : Int64) (n p0 t q mm bd : Nat) (a_row : Nat → Int32) (a_crosses : Nat → Int32) (d0 : Int32) (c0 : Int32) (i0 : Int32) (hn : n ≤ 8) (hp : p0 = 0 ∨ p0 = 25) (ht : t ≤ 240) (hq0 : q ≤ 20) (hmm : mm ≤ 20) (hbd : bd ≤ 30) (ok_a_row : RowOk a_row) (hpre0 : i0 = 0 ∨ i0 = 1) : Ci l yX9_write (WW yX9_write cX9_write 4 (some FieldType.int)) rmX9_write D vwCl (TY g) [.ref (b 0), .int d0, .int c0, .int i0] [(b 0, .inr (9, [.int (nI n), .ref (b 1), .ref (b 2), .int (nI p0), .ref (b 3), .ref (b 4), .ref (b 5), .ref (b 6), .ref (b 7), .ref (b 8), .int (I 10), .ref (b 9), .int (nI t), .int (I 13), .int (I 14), .int (I 15), .long W, .int (I 17), .int (I 18), .int (I 19), .int (I 20), .ref (b 10), .ref (b 11), .ref (b 12), .ref (b 13), .ref (b 14), .ref (b 15), .int (nI q), .int (nI mm), .ref (b 16), .ref (b 17), .ref (b 18), .ref (b 19), .ref (b 20), .ref (b 21), .int (I 35), .int (I 36), .int (I 37), .ref (b 22), .int (nI bd), .int (I 40), .int (I 41), .ref (b 23), .int (I 43), .ref (b 24)])), (b 2, .inl (g 0, 50, .inl a_row)), (b 4, .inl (g 0, 40, .inl a_crosses))] (fun r u => ∃ (a_crosses' : Nat → Int32), (∀ (G : MG) (ch9 ev9 tr9 lw9 : MA), RG G n ch9 a_row ev9 a_crosses tr9 lw9 (I 10) → RG (gWrite d0 c0 i0 G) n ch9 a_row ev9 a_crosses' tr9 lw9 (I 10) ∧ r = aWrite d0 c0 i0 G) ∧ u = [(b 0, .inr (9, [.int (nI n), .ref (b 1), .ref (b 2), .int (nI p0), .ref (b 3), .ref (b 4), .ref (b 5), .ref (b 6), .ref (b 7), .ref (b 8), .int (I 10), .ref (b 9), .int (nI t), .int (I 13), .int (I 14), .int (I 15), .long W, .int (I 17), .int (I 18), .int (I 19), .int (I 20), .ref (b 10), .ref (b 11), .ref (b 12), .ref (b 13), .ref (b 14), .ref (b 15), .int (nI q), .int (nI mm), .ref (b 16), .ref (b 17), .ref (b 18), .ref (b 19), .ref (b 20), .ref (b 21), .int (I 35), .int (I 36), .int (I 37), .ref (b 22), .int (nI bd), .int (I 40), .int (I 41), .ref (b 23), .int (I 43), .ref (b 24)])), (b 2, .inl (g 0, 50, .inl a_row)), (b 4, .inl (g 0, 40, .inl a_crosses'))]) := by
  refine ci_in (by decide) (Nat.le_of_ble_eq_true rfl) (a0 := [b 0, b 2, b 4]) rfl (fun p e s m args below meth c A Q hQ B hr hsc => ?_)
  refine s_aload_n B dX9_write_0 rfl 0 rfl ?_
  refine s_iload_n B dX9_write_1 rfl 2 rfl ?_
  refine s_callVi B hsc (c_X9_isChild l D g b (upd (upd (upd (upd I 12 (nI t)) 27 (nI q)) 28 (nI mm)) 39 (nI bd)) W n p0 c0) (gw_V ml_X9_206 im_yX9_isChild se_yX9_isChild ini_RX9 co_yX9_isChild) hd_X9_isChild rfl rfl ⟨(Nat.le_of_ble_eq_true rfl), (Nat.le_of_ble_eq_true rfl)⟩ [0] [0, 1, 2, 3, 4] rfl rfl rfl (ci := 9) (q0 := 0) rfl rfl rfl rfl rfl (Nat.le_of_ble_eq_true rfl) dX9_write_2 (fun r_1 u_2 hpo => ?_)
  obtain ⟨rfl, rfl⟩ := hpo
  refine s_st (st' := [.int (if ¬ c0 < 0 ∧ ¬ nI n - 1 < c0 then 1 else 0)]) rfl ?_
  refine s_ws (ws' := [(b 0, .inr (9, [.int (nI n), .ref (b 1), .ref (b 2), .int (nI p0), .ref (b 3), .ref (b 4), .ref (b 5), .ref (b 6), .ref (b 7), .ref (b 8), .int (I 10), .ref (b 9), .int (nI t), .int (I 13), .int (I 14), .int (I 15), .long W, .int (I 17), .int (I 18), .int (I 19), .int (I 20), .ref (b 10), .ref (b 11), .ref (b 12), .ref (b 13), .ref (b 14), .ref (b 15), .int (nI q), .int (nI mm), .ref (b 16), .ref (b 17), .ref (b 18), .ref (b 19), .ref (b 20), .ref (b 21), .int (I 35), .int (I 36), .int (I 37), .ref (b 22), .int (nI bd), .int (I 40), .int (I 41), .ref (b 23), .int (I 43), .ref (b 24)])), (b 2, .inl (g 0, 50, .inl a_row)), (b 4, .inl (g 0, 40, .inl a_crosses))]) rfl ?_
  refine s_bif_eq (tgt := 24) B dX9_write_5 rfl (fun h5 => ?_) (fun h5 => ?_)
  · refine s_iconst B dX9_write_24 ic_m1 ?_
    refine s_iret B hQ hr dX9_write_25 rfl ?_
    exact ⟨a_crosses, (fun G ch9 ev9 tr9 lw9 H => (by obtain ⟨d9, hd9, hr9⟩ := RowOk.at ok_a_row (Or.inl rfl); exact H.write_no hr9 hd9 (Or.inl h5))), rfl⟩
  · obtain ⟨k_3, hk_4, rfl⟩ := nat_lt1 (N := n) h5.1 h5.2 (by omega)
    refine s_iload_n B dX9_write_8 rfl 1 rfl ?_
    refine s_iconst B dX9_write_9 ic_0 ?_
    refine s_aload_n B dX9_write_10 rfl 0 rfl ?_
    refine s_get (T := TX9) B inX9 0 rfl rfl 2 (Nat.le_of_ble_eq_true rfl) fl_X9_13 rfl rfl dX9_write_11 ?_
    refine s_iconst B dX9_write_14 ic_0 ?_
    refine s_ialdN B 1 0 rfl rfl dX9_write_15 (by decide) (by decide) ?_
    obtain ⟨d_5, hd_6, hr__7⟩ : le40 (a_row 0) := RowOk.at ok_a_row (by omega)
    refine s_st (st' := [.int (nI d_5), .int 0, .int d0]) (by rw [hr__7]) ?_
    refine s_iconst B dX9_write_16 ic_1 ?_
    refine s_isub B dX9_write_17 ?_
    refine s_callSi B hsc (c_X9_in l D g d0 0 ((nI d_5) - 1)) (gw_S ml_X9_87 sm_yX9_in ini_RX9 co_yX9_in) hd_X9_in rfl rfl ⟨(Nat.le_of_ble_eq_true rfl), (Nat.le_of_ble_eq_true rfl)⟩ [] [0, 1, 2, 3, 4] rfl rfl rfl rfl rfl (Nat.le_of_ble_eq_true rfl) dX9_write_18 (fun r_8 u_9 hpo => ?_)
    obtain ⟨rfl, rfl⟩ := hpo
    refine s_st (st' := [.int (if ¬ d0 < 0 ∧ ¬ ((nI d_5) - 1) < d0 then 1 else 0)]) rfl ?_
    refine s_ws (ws' := [(b 0, .inr (9, [.int (nI n), .ref (b 1), .ref (b 2), .int (nI p0), .ref (b 3), .ref (b 4), .ref (b 5), .ref (b 6), .ref (b 7), .ref (b 8), .int (I 10), .ref (b 9), .int (nI t), .int (I 13), .int (I 14), .int (I 15), .long W, .int (I 17), .int (I 18), .int (I 19), .int (I 20), .ref (b 10), .ref (b 11), .ref (b 12), .ref (b 13), .ref (b 14), .ref (b 15), .int (nI q), .int (nI mm), .ref (b 16), .ref (b 17), .ref (b 18), .ref (b 19), .ref (b 20), .ref (b 21), .int (I 35), .int (I 36), .int (I 37), .ref (b 22), .int (nI bd), .int (I 40), .int (I 41), .ref (b 23), .int (I 43), .ref (b 24)])), (b 2, .inl (g 0, 50, .inl a_row)), (b 4, .inl (g 0, 40, .inl a_crosses))]) rfl ?_
    refine s_bif_ne (tgt := 26) B dX9_write_21 rfl (fun h21 => ?_) (fun h21 => ?_)
    · obtain ⟨k_10, hk_11, rfl⟩ := nat_lt1 (N := d_5) h21.1 h21.2 (by omega)
      refine s_aload_n B dX9_write_26 rfl 0 rfl ?_
      refine s_get (T := TX9) B inX9 0 rfl rfl 5 (Nat.le_of_ble_eq_true rfl) fl_X9_19 rfl rfl dX9_write_27 ?_
      refine s_iload_n B dX9_write_30 rfl 1 rfl ?_
      refine s_ialdN B 2 0 rfl rfl dX9_write_31 (by omega) (by decide) ?_
      refine s_iload_n B dX9_write_32 rfl 2 rfl ?_
      refine s_ishr B dX9_write_33 ?_
      refine s_iconst B dX9_write_34 ic_1 ?_
      refine s_iand B dX9_write_35 ?_
      refine s_iconst B dX9_write_36 ic_1 ?_
      refine s_icmp_ne (tgt := 44) B dX9_write_37 rfl (fun h37 => ?_) (fun h37 => ?_)
      · refine s_iconst B dX9_write_44 ic_0 ?_
        refine s_iload_n B dX9_write_45 rfl 3 rfl ?_
        refine s_icmp_ne (tgt := 51) B dX9_write_46 rfl (fun h46 => ?_) (fun h46 => ?_)
        · refine s_aload_n B dX9_write_51 rfl 0 rfl ?_
          refine s_get (T := TX9) B inX9 0 rfl rfl 5 (Nat.le_of_ble_eq_true rfl) fl_X9_19 rfl rfl dX9_write_52 ?_
          refine s_iload_n B dX9_write_55 rfl 1 rfl ?_
          refine s_dup2_11 B dX9_write_56 rfl rfl ?_
          refine s_ialdN B 2 0 rfl rfl dX9_write_57 (by omega) (by decide) ?_
          refine s_iconst B dX9_write_58 ic_1 ?_
          refine s_iload_n B dX9_write_59 rfl 2 rfl ?_
          refine s_ishl B dX9_write_60 ?_
          refine s_ixor B dX9_write_61 ?_
          refine s_iastN (ws' := [_, _, _]) B 2 0 rfl rfl rfl dX9_write_62 (by omega) (by decide) ?_
          refine s_iconst B dX9_write_63 ic_1 ?_
          refine s_iret B hQ hr dX9_write_64 rfl ?_
          exact ⟨(upd a_crosses k_10 ((a_crosses k_10) ^^^ (1 <<< ((nI k_3) &&& 31)))), (fun G ch9 ev9 tr9 lw9 H => (H.write_ok hr__7 (by omega) (by omega) (by omega) (Or.inr ⟨(Or.inr ⟨(Bool.eq_false_iff.mpr (by rw [Ne, ← bit1_bt (by omega)]; exact h37)), (by rcases hpre0 with e | e <;> rw [e] at h46 ⊢ <;> revert h46 <;> decide)⟩), rfl, rfl⟩))), rfl⟩
        · refine s_iconst B dX9_write_49 ic_0 ?_
          refine s_iret B hQ hr dX9_write_50 rfl ?_
          exact ⟨a_crosses, (fun G ch9 ev9 tr9 lw9 H => (H.write_ok hr__7 (by omega) (by omega) (by omega) (Or.inl ⟨(Or.inr ⟨(Bool.eq_false_iff.mpr (by rw [Ne, ← bit1_bt (by omega)]; exact h37)), (by rcases hpre0 with e | e <;> rw [e] at h46 ⊢ <;> revert h46 <;> decide)⟩), rfl, rfl⟩))), rfl⟩
      · refine s_iconst B dX9_write_40 ic_1 ?_
        refine s_goto (tgt := 45) B dX9_write_41 rfl ?_
        refine s_iload_n B dX9_write_45 rfl 3 rfl ?_
        refine s_icmp_ne (tgt := 51) B dX9_write_46 rfl (fun h46 => ?_) (fun h46 => ?_)
        · refine s_aload_n B dX9_write_51 rfl 0 rfl ?_
          refine s_get (T := TX9) B inX9 0 rfl rfl 5 (Nat.le_of_ble_eq_true rfl) fl_X9_19 rfl rfl dX9_write_52 ?_
          refine s_iload_n B dX9_write_55 rfl 1 rfl ?_
          refine s_dup2_11 B dX9_write_56 rfl rfl ?_
          refine s_ialdN B 2 0 rfl rfl dX9_write_57 (by omega) (by decide) ?_
          refine s_iconst B dX9_write_58 ic_1 ?_
          refine s_iload_n B dX9_write_59 rfl 2 rfl ?_
          refine s_ishl B dX9_write_60 ?_
          refine s_ixor B dX9_write_61 ?_
          refine s_iastN (ws' := [_, _, _]) B 2 0 rfl rfl rfl dX9_write_62 (by omega) (by decide) ?_
          refine s_iconst B dX9_write_63 ic_1 ?_
          refine s_iret B hQ hr dX9_write_64 rfl ?_
          exact ⟨(upd a_crosses k_10 ((a_crosses k_10) ^^^ (1 <<< ((nI k_3) &&& 31)))), (fun G ch9 ev9 tr9 lw9 H => (H.write_ok hr__7 (by omega) (by omega) (by omega) (Or.inr ⟨(Or.inl ⟨(by rw [← bit1_bt (by omega)]; exact h37), (by rcases hpre0 with e | e <;> rw [e] at h46 ⊢ <;> revert h46 <;> decide)⟩), rfl, rfl⟩))), rfl⟩
        · refine s_iconst B dX9_write_49 ic_0 ?_
          refine s_iret B hQ hr dX9_write_50 rfl ?_
          exact ⟨a_crosses, (fun G ch9 ev9 tr9 lw9 H => (H.write_ok hr__7 (by omega) (by omega) (by omega) (Or.inl ⟨(Or.inl ⟨(by rw [← bit1_bt (by omega)]; exact h37), (by rcases hpre0 with e | e <;> rw [e] at h46 ⊢ <;> revert h46 <;> decide)⟩), rfl, rfl⟩))), rfl⟩
    · refine s_iconst B dX9_write_24 ic_m1 ?_
      refine s_iret B hQ hr dX9_write_25 rfl ?_
      exact ⟨a_crosses, (fun G ch9 ev9 tr9 lw9 H => (H.write_no hr__7 (by omega) (Or.inr h21))), rfl⟩
def rmX9_marks : Room := { frames := 2, cells := 0, slots := 0, locals := 43 }
theorem hd_X9_marks : yX9_marks.cls = RX9 ∧ yX9_marks.cls ≠ "java/lang/invoke/MethodHandle" ∧ yX9_marks.cls ≠ "java/lang/invoke/VarHandle" ∧ (parseMethodDescriptor yX9_marks.desc).map (fun d => d.parameters.length) = some 1 := by decide +kernel
set_option maxHeartbeats 4000000 in
set_option maxRecDepth 100000 in
theorem c_X9_marks (l : Launch) (D : va_G) (g : Nat → ClassId) (b : Nat → Nat) (I : Nat → Int32) (W : Int64) (n p0 t q mm bd : Nat) (a_crosses : Nat → Int32) (c0 : Int32) (hn : n ≤ 8) (hp : p0 = 0 ∨ p0 = 25) (ht : t ≤ 240) (hq0 : q ≤ 20) (hmm : mm ≤ 20) (hbd : bd ≤ 30) : Ci l yX9_marks (WW yX9_marks cX9_marks 4 (some FieldType.int)) rmX9_marks D vwCl (TY g) [.ref (b 0), .int c0] [(b 0, .inr (9, [.int (nI n), .ref (b 1), .ref (b 2), .int (nI p0), .ref (b 3), .ref (b 4), .ref (b 5), .ref (b 6), .ref (b 7), .ref (b 8), .int (I 10), .ref (b 9), .int (nI t), .int (I 13), .int (I 14), .int (I 15), .long W, .int (I 17), .int (I 18), .int (I 19), .int (I 20), .ref (b 10), .ref (b 11), .ref (b 12), .ref (b 13), .ref (b 14), .ref (b 15), .int (nI q), .int (nI mm), .ref (b 16), .ref (b 17), .ref (b 18), .ref (b 19), .ref (b 20), .ref (b 21), .int (I 35), .int (I 36), .int (I 37), .ref (b 22), .int (nI bd), .int (I 40), .int (I 41), .ref (b 23), .int (I 43), .ref (b 24)])), (b 4, .inl (g 0, 40, .inl a_crosses))] (fun r u => (∀ (G : MG) (ch9 rw9 ev9 tr9 lw9 : MA), RG G n ch9 rw9 ev9 a_crosses tr9 lw9 (I 10) → r = aMarks c0 G) ∧ u = [(b 0, .inr (9, [.int (nI n), .ref (b 1), .ref (b 2), .int (nI p0), .ref (b 3), .ref (b 4), .ref (b 5), .ref (b 6), .ref (b 7), .ref (b 8), .int (I 10), .ref (b 9), .int (nI t), .int (I 13), .int (I 14), .int (I 15), .long W, .int (I 17), .int (I 18), .int (I 19), .int (I 20), .ref (b 10), .ref (b 11), .ref (b 12), .ref (b 13), .ref (b 14), .ref (b 15), .int (nI q), .int (nI mm), .ref (b 16), .ref (b 17), .ref (b 18), .ref (b 19), .ref (b 20), .ref (b 21), .int (I 35), .int (I 36), .int (I 37), .ref (b 22), .int (nI bd), .int (I 40), .int (I 41), .ref (b 23), .int (I 43), .ref (b 24)])), (b 4, .inl (g 0, 40, .inl a_crosses))]) := by
  refine ci_in (by decide) (Nat.le_of_ble_eq_true rfl) (a0 := [b 0, b 4]) rfl (fun p e s m args below meth c A Q hQ B hr hsc => ?_)
  refine s_aload_n B dX9_marks_0 rfl 0 rfl ?_
  refine s_iload_n B dX9_marks_1 rfl 1 rfl ?_
  refine s_callVi B hsc (c_X9_isChild l D g b (upd (upd (upd (upd I 12 (nI t)) 27 (nI q)) 28 (nI mm)) 39 (nI bd)) W n p0 c0) (gw_V ml_X9_206 im_yX9_isChild se_yX9_isChild ini_RX9 co_yX9_isChild) hd_X9_isChild rfl rfl ⟨(Nat.le_of_ble_eq_true rfl), (Nat.le_of_ble_eq_true rfl)⟩ [0] [0, 1, 2, 3, 4] rfl rfl rfl (ci := 9) (q0 := 0) rfl rfl rfl rfl rfl (Nat.le_of_ble_eq_true rfl) dX9_marks_2 (fun r_1 u_2 hpo => ?_)
  obtain ⟨rfl, rfl⟩ := hpo
  refine s_st (st' := [.int (if ¬ c0 < 0 ∧ ¬ nI n - 1 < c0 then 1 else 0)]) rfl ?_
  refine s_ws (ws' := [(b 0, .inr (9, [.int (nI n), .ref (b 1), .ref (b 2), .int (nI p0), .ref (b 3), .ref (b 4), .ref (b 5), .ref (b 6), .ref (b 7), .ref (b 8), .int (I 10), .ref (b 9), .int (nI t), .int (I 13), .int (I 14), .int (I 15), .long W, .int (I 17), .int (I 18), .int (I 19), .int (I 20), .ref (b 10), .ref (b 11), .ref (b 12), .ref (b 13), .ref (b 14), .ref (b 15), .int (nI q), .int (nI mm), .ref (b 16), .ref (b 17), .ref (b 18), .ref (b 19), .ref (b 20), .ref (b 21), .int (I 35), .int (I 36), .int (I 37), .ref (b 22), .int (nI bd), .int (I 40), .int (I 41), .ref (b 23), .int (I 43), .ref (b 24)])), (b 4, .inl (g 0, 40, .inl a_crosses))]) rfl ?_
  refine s_bif_ne (tgt := 10) B dX9_marks_5 rfl (fun h5 => ?_) (fun h5 => ?_)
  · obtain ⟨k_3, hk_4, rfl⟩ := nat_lt1 (N := n) h5.1 h5.2 (by omega)
    have L14 : ∀ (jj14 : Nat) (v_5 : Int32) (k_6 : Nat), 40 - k_6 < jj14 → (¬ (nI k_3) < 0 ∧ ¬ nI n - 1 < (nI k_3)) → (k_3 < n) → (k_6 ≤ 40) → (v_5 = nI (mCt (fun d => bt (a_crosses d) k_3) k_6)) → Sx p l e rmX9_marks s m args below meth c D vwCl A 4 Q 14 [(0, .ref (b 0)), (1, .int (nI k_3)), (2, .int v_5), (3, .int (nI k_6))] [] [(b 0, .inr (9, [.int (nI n), .ref (b 1), .ref (b 2), .int (nI p0), .ref (b 3), .ref (b 4), .ref (b 5), .ref (b 6), .ref (b 7), .ref (b 8), .int (I 10), .ref (b 9), .int (nI t), .int (I 13), .int (I 14), .int (I 15), .long W, .int (I 17), .int (I 18), .int (I 19), .int (I 20), .ref (b 10), .ref (b 11), .ref (b 12), .ref (b 13), .ref (b 14), .ref (b 15), .int (nI q), .int (nI mm), .ref (b 16), .ref (b 17), .ref (b 18), .ref (b 19), .ref (b 20), .ref (b 21), .int (I 35), .int (I 36), .int (I 37), .ref (b 22), .int (nI bd), .int (I 40), .int (I 41), .ref (b 23), .int (I 43), .ref (b 24)])), (b 4, .inl (g 0, 40, .inl a_crosses))] := by
      intro jj14
      induction jj14 with
      | zero => intro v_5 k_6 hj; exact absurd hj (Nat.not_lt_zero _)
      | succ jj14 ih14 =>
        intro v_5 k_6 hj14 h5 hk_4 h_7 hM_8
        refine s_iload_n B dX9_marks_14 rfl 3 rfl ?_
        refine s_bipush B dX9_marks_15 bp_40 ?_
        refine s_icmp_ge (tgt := 39) B dX9_marks_17 rfl (fun h17 => ?_) (fun h17 => ?_)
        · replace h17 : 40 ≤ k_6 := (nI_leI (a := 40) (b := k_6) (by omega) (by omega)).mp h17
          refine s_iload_n B dX9_marks_39 rfl 2 rfl ?_
          refine s_iret B hQ hr dX9_marks_40 rfl ?_
          exact ⟨(fun G ch9 rw9 ev9 tr9 lw9 H => (H.marks_ok (by omega) (show k_6 = 40 by omega) hM_8)), rfl⟩
        · replace h17 : ¬ 40 ≤ k_6 := fun hh => h17 ((nI_leI (a := 40) (b := k_6) (by omega) (by omega)).mpr hh)
          refine s_iload_n B dX9_marks_20 rfl 2 rfl ?_
          refine s_aload_n B dX9_marks_21 rfl 0 rfl ?_
          refine s_get (T := TX9) B inX9 0 rfl rfl 5 (Nat.le_of_ble_eq_true rfl) fl_X9_19 rfl rfl dX9_marks_22 ?_
          refine s_iload_n B dX9_marks_25 rfl 3 rfl ?_
          refine s_ialdN B 1 0 rfl rfl dX9_marks_26 (by omega) (by decide) ?_
          refine s_iload_n B dX9_marks_27 rfl 1 rfl ?_
          refine s_ishr B dX9_marks_28 ?_
          refine s_iconst B dX9_marks_29 ic_1 ?_
          refine s_iand B dX9_marks_30 ?_
          refine s_iadd B dX9_marks_31 ?_
          refine s_istore_n (lv' := [(2, _), (0, _), (1, _), (3, _)]) B dX9_marks_32 rfl (Nat.le_of_ble_eq_true rfl) rfl ?_
          refine s_iinc (lv' := [(3, _), (2, _), (0, _), (1, _)]) (k := 3) B dX9_marks_33 rfl (ii_n _) (Nat.le_of_ble_eq_true rfl) rfl ?_
          refine s_goto (tgt := 14) B dX9_marks_36 rfl ?_
          refine s_lv (lv' := [(0, _), (1, _), (2, _), (3, _)]) [2, 3, 1, 0] rfl ?_
          exact ih14 (v_5 + (((a_crosses k_6) >>> ((nI k_3) &&& 31)) &&& 1)) (k_6 + 1) (by omega) h5 hk_4 (by omega) (mk_s (by omega) hM_8)
    refine s_iconst B dX9_marks_10 ic_0 ?_
    refine s_istore_n (lv' := [(2, _), (0, _), (1, _)]) B dX9_marks_11 rfl (Nat.le_of_ble_eq_true rfl) rfl ?_
    refine s_iconst B dX9_marks_12 ic_0 ?_
    refine s_istore_n (lv' := [(3, _), (2, _), (0, _), (1, _)]) B dX9_marks_13 rfl (Nat.le_of_ble_eq_true rfl) rfl ?_
    refine s_lv (lv' := [(0, _), (1, _), (2, _), (3, _)]) [2, 3, 1, 0] rfl ?_
    refine s_lve (lv' := [(0, .ref (b 0)), (1, .int (nI k_3)), (2, .int 0), (3, .int (nI 0))]) (by first | rfl | (simp only [if_pos, if_neg]; done)) ?_
    exact L14 _ 0 0 (Nat.lt_succ_self _) h5 hk_4 (by omega) rfl
  · refine s_iconst B dX9_marks_8 ic_m1 ?_
    refine s_iret B hQ hr dX9_marks_9 rfl ?_
    exact ⟨(fun G ch9 rw9 ev9 tr9 lw9 H => (H.marks_no h5)), rfl⟩
def rmX9_wrong : Room := { frames := 1, cells := 0, slots := 0, locals := 22 }
theorem hd_X9_wrong : yX9_wrong.cls = RX9 ∧ yX9_wrong.cls ≠ "java/lang/invoke/MethodHandle" ∧ yX9_wrong.cls ≠ "java/lang/invoke/VarHandle" ∧ (parseMethodDescriptor yX9_wrong.desc).map (fun d => d.parameters.length) = some 1 := by decide +kernel
set_option maxHeartbeats 4000000 in
set_option maxRecDepth 100000 in
theorem c_X9_wrong (l : Launch) (D : va_G) (g : Nat → ClassId) (b : Nat → Nat) (I : Nat → Int32) (W : Int64) (n p0 t q mm bd : Nat) (a_row : Nat → Int32) (a_crosses : Nat → Int32) (a_truth : Nat → Int32) (w0 : Int32) (hn : n ≤ 8) (hp : p0 = 0 ∨ p0 = 25) (ht : t ≤ 240) (hq0 : q ≤ 20) (hmm : mm ≤ 20) (hbd : bd ≤ 30) (ok_a_row : RowOk a_row) : Ci l yX9_wrong (WW yX9_wrong cX9_wrong 6 (some FieldType.int)) rmX9_wrong D vwCl (TY g) [.ref (b 0), .int w0] [(b 0, .inr (9, [.int (nI n), .ref (b 1), .ref (b 2), .int (nI 0), .ref (b 3), .ref (b 4), .ref (b 5), .ref (b 6), .ref (b 7), .ref (b 8), .int (I 10), .ref (b 9), .int (nI t), .int (I 13), .int (I 14), .int (I 15), .long W, .int (I 17), .int (I 18), .int (I 19), .int (I 20), .ref (b 10), .ref (b 11), .ref (b 12), .ref (b 13), .ref (b 14), .ref (b 15), .int (nI q), .int (nI mm), .ref (b 16), .ref (b 17), .ref (b 18), .ref (b 19), .ref (b 20), .ref (b 21), .int (I 35), .int (I 36), .int (I 37), .ref (b 22), .int (nI bd), .int (I 40), .int (I 41), .ref (b 23), .int (I 43), .ref (b 24)])), (b 2, .inl (g 0, 50, .inl a_row)), (b 4, .inl (g 0, 40, .inl a_crosses)), (b 5, .inl (g 0, 40, .inl a_truth))] (fun r u => (∀ (G : MG) (ch9 ev9 lw9 : MA), RG G n ch9 a_row ev9 a_crosses a_truth lw9 (I 10) → r = aWrong w0 G) ∧ u = [(b 0, .inr (9, [.int (nI n), .ref (b 1), .ref (b 2), .int (nI 0), .ref (b 3), .ref (b 4), .ref (b 5), .ref (b 6), .ref (b 7), .ref (b 8), .int (I 10), .ref (b 9), .int (nI t), .int (I 13), .int (I 14), .int (I 15), .long W, .int (I 17), .int (I 18), .int (I 19), .int (I 20), .ref (b 10), .ref (b 11), .ref (b 12), .ref (b 13), .ref (b 14), .ref (b 15), .int (nI q), .int (nI mm), .ref (b 16), .ref (b 17), .ref (b 18), .ref (b 19), .ref (b 20), .ref (b 21), .int (I 35), .int (I 36), .int (I 37), .ref (b 22), .int (nI bd), .int (I 40), .int (I 41), .ref (b 23), .int (I 43), .ref (b 24)])), (b 2, .inl (g 0, 50, .inl a_row)), (b 4, .inl (g 0, 40, .inl a_crosses)), (b 5, .inl (g 0, 40, .inl a_truth))]) := by
  refine ci_in (by decide) (Nat.le_of_ble_eq_true rfl) (a0 := [b 0, b 2, b 4, b 5]) rfl (fun p e s m args below meth c A Q hQ B hr hsc => ?_)
  obtain ⟨dz, hdz, hrz⟩ : le40 (a_row 0) := RowOk.at ok_a_row (Or.inl rfl)
  refine s_iload_n B dX9_wrong_0 rfl 1 rfl ?_
  refine s_iconst B dX9_wrong_1 ic_0 ?_
  refine s_iconst B dX9_wrong_2 ic_2 ?_
  refine s_callSi B hsc (c_X9_in l D g w0 0 2) (gw_S ml_X9_87 sm_yX9_in ini_RX9 co_yX9_in) hd_X9_in rfl rfl ⟨(Nat.le_of_ble_eq_true rfl), (Nat.le_of_ble_eq_true rfl)⟩ [] [0, 1, 2, 3, 4] rfl rfl rfl rfl rfl (Nat.le_of_ble_eq_true rfl) dX9_wrong_3 (fun r_1 u_2 hpo => ?_)
  obtain ⟨rfl, rfl⟩ := hpo
  refine s_st (st' := [.int (if ¬ w0 < 0 ∧ ¬ 2 < w0 then 1 else 0)]) rfl ?_
  refine s_ws (ws' := [(b 0, .inr (9, [.int (nI n), .ref (b 1), .ref (b 2), .int (nI 0), .ref (b 3), .ref (b 4), .ref (b 5), .ref (b 6), .ref (b 7), .ref (b 8), .int (I 10), .ref (b 9), .int (nI t), .int (I 13), .int (I 14), .int (I 15), .long W, .int (I 17), .int (I 18), .int (I 19), .int (I 20), .ref (b 10), .ref (b 11), .ref (b 12), .ref (b 13), .ref (b 14), .ref (b 15), .int (nI q), .int (nI mm), .ref (b 16), .ref (b 17), .ref (b 18), .ref (b 19), .ref (b 20), .ref (b 21), .int (I 35), .int (I 36), .int (I 37), .ref (b 22), .int (nI bd), .int (I 40), .int (I 41), .ref (b 23), .int (I 43), .ref (b 24)])), (b 2, .inl (g 0, 50, .inl a_row)), (b 4, .inl (g 0, 40, .inl a_crosses)), (b 5, .inl (g 0, 40, .inl a_truth))]) rfl ?_
  refine s_bif_ne (tgt := 11) B dX9_wrong_6 rfl (fun h6 => ?_) (fun h6 => ?_)
  · obtain ⟨k_3, hk_4, rfl⟩ := nat_le (N := 2) h6.1 h6.2 (by decide)
    have L22 : ∀ (jj22 : Nat) (v_5 : Int32) (v_6 : Int32) (v_7 : Int32) (k_8 : Nat), 40 - k_8 < jj22 → (¬ (nI k_3) < 0 ∧ ¬ 2 < (nI k_3)) → (k_3 ≤ 2) → (k_8 ≤ dz) → (Sm a_crosses a_truth → v_5 = mSumI (fun d => mPop (a_crosses d &&& (a_truth d ^^^ (-1)))) k_8) → (Sm a_crosses a_truth → v_6 = mSumI (fun d => mPop (a_truth d &&& (a_crosses d ^^^ (-1)))) k_8) → (FI (fun d => decide (¬ a_crosses d = a_truth d)) v_7 k_8) → Sx p l e rmX9_wrong s m args below meth c D vwCl A 6 Q 22 [(0, .ref (b 0)), (1, .int (nI k_3)), (2, .int v_5), (3, .int v_6), (4, .int v_7), (5, .int (nI k_8))] [] [(b 0, .inr (9, [.int (nI n), .ref (b 1), .ref (b 2), .int (nI 0), .ref (b 3), .ref (b 4), .ref (b 5), .ref (b 6), .ref (b 7), .ref (b 8), .int (I 10), .ref (b 9), .int (nI t), .int (I 13), .int (I 14), .int (I 15), .long W, .int (I 17), .int (I 18), .int (I 19), .int (I 20), .ref (b 10), .ref (b 11), .ref (b 12), .ref (b 13), .ref (b 14), .ref (b 15), .int (nI q), .int (nI mm), .ref (b 16), .ref (b 17), .ref (b 18), .ref (b 19), .ref (b 20), .ref (b 21), .int (I 35), .int (I 36), .int (I 37), .ref (b 22), .int (nI bd), .int (I 40), .int (I 41), .ref (b 23), .int (I 43), .ref (b 24)])), (b 2, .inl (g 0, 50, .inl a_row)), (b 4, .inl (g 0, 40, .inl a_crosses)), (b 5, .inl (g 0, 40, .inl a_truth))] := by
      intro jj22
      induction jj22 with
      | zero => intro v_5 v_6 v_7 k_8 hj; exact absurd hj (Nat.not_lt_zero _)
      | succ jj22 ih22 =>
        intro v_5 v_6 v_7 k_8 hj22 h6 hk_4 h_9 hA_10 hB_11 hF_12
        have M108 : ∀ (v_31 : Int32) (v_32 : Int32) (v_33 : Int32), (¬ (nI k_3) < 0 ∧ ¬ 2 < (nI k_3)) → (k_3 ≤ 2) → (Sm a_crosses a_truth → v_5 = mSumI (fun d => mPop (a_crosses d &&& (a_truth d ^^^ (-1)))) k_8) → (Sm a_crosses a_truth → v_6 = mSumI (fun d => mPop (a_truth d &&& (a_crosses d ^^^ (-1)))) k_8) → (FI (fun d => decide (¬ a_crosses d = a_truth d)) v_7 k_8) → (k_8 < dz) → (Sm a_crosses a_truth → v_31 = mSumI (fun d => mPop (a_crosses d &&& (a_truth d ^^^ (-1)))) (k_8 + 1)) → (Sm a_crosses a_truth → v_32 = mSumI (fun d => mPop (a_truth d &&& (a_crosses d ^^^ (-1)))) (k_8 + 1)) → (FI (fun d => decide (¬ a_crosses d = a_truth d)) v_33 (k_8 + 1)) → Sx p l e rmX9_wrong s m args below meth c D vwCl A 6 Q 108 [(0, .ref (b 0)), (1, .int (nI k_3)), (2, .int v_31), (3, .int v_32), (5, .int (nI k_8))] [.int v_33] [(b 0, .inr (9, [.int (nI n), .ref (b 1), .ref (b 2), .int (nI 0), .ref (b 3), .ref (b 4), .ref (b 5), .ref (b 6), .ref (b 7), .ref (b 8), .int (I 10), .ref (b 9), .int (nI t), .int (I 13), .int (I 14), .int (I 15), .long W, .int (I 17), .int (I 18), .int (I 19), .int (I 20), .ref (b 10), .ref (b 11), .ref (b 12), .ref (b 13), .ref (b 14), .ref (b 15), .int (nI q), .int (nI mm), .ref (b 16), .ref (b 17), .ref (b 18), .ref (b 19), .ref (b 20), .ref (b 21), .int (I 35), .int (I 36), .int (I 37), .ref (b 22), .int (nI bd), .int (I 40), .int (I 41), .ref (b 23), .int (I 43), .ref (b 24)])), (b 2, .inl (g 0, 50, .inl a_row)), (b 4, .inl (g 0, 40, .inl a_crosses)), (b 5, .inl (g 0, 40, .inl a_truth))] := by
          intro v_31 v_32 v_33 h6 hk_4 hA_10 hB_11 hF_12 hj_34 hA_35 hB_36 hF_37
          refine s_istore (lv' := [(4, _), (0, _), (1, _), (2, _), (3, _), (5, _)]) B dX9_wrong_108 (Nat.le_of_ble_eq_true rfl) rfl ?_
          refine s_iinc (lv' := [(5, _), (4, _), (0, _), (1, _), (2, _), (3, _)]) (k := 5) B dX9_wrong_110 rfl (ii_n _) (Nat.le_of_ble_eq_true rfl) rfl ?_
          refine s_goto (tgt := 22) B dX9_wrong_113 rfl ?_
          refine s_lv (lv' := [(0, _), (1, _), (2, _), (3, _), (4, _), (5, _)]) [2, 3, 4, 5, 1, 0] rfl ?_
          exact ih22 v_31 v_32 v_33 (k_8 + 1) (by omega) h6 hk_4 (by omega) hA_35 hB_36 hF_37
        have M106 : ∀ (v_25 : Int32) (v_26 : Int32), (¬ (nI k_3) < 0 ∧ ¬ 2 < (nI k_3)) → (k_3 ≤ 2) → (Sm a_crosses a_truth → v_5 = mSumI (fun d => mPop (a_crosses d &&& (a_truth d ^^^ (-1)))) k_8) → (Sm a_crosses a_truth → v_6 = mSumI (fun d => mPop (a_truth d &&& (a_crosses d ^^^ (-1)))) k_8) → (FI (fun d => decide (¬ a_crosses d = a_truth d)) v_7 k_8) → (k_8 < dz) → (Sm a_crosses a_truth → v_25 = mSumI (fun d => mPop (a_crosses d &&& (a_truth d ^^^ (-1)))) (k_8 + 1)) → (Sm a_crosses a_truth → v_26 = mSumI (fun d => mPop (a_truth d &&& (a_crosses d ^^^ (-1)))) (k_8 + 1)) → (FI (fun d => decide (¬ a_crosses d = a_truth d)) v_7 (k_8 + 1)) → Sx p l e rmX9_wrong s m args below meth c D vwCl A 6 Q 106 [(0, .ref (b 0)), (1, .int (nI k_3)), (2, .int v_25), (3, .int v_26), (4, .int v_7), (5, .int (nI k_8))] [] [(b 0, .inr (9, [.int (nI n), .ref (b 1), .ref (b 2), .int (nI 0), .ref (b 3), .ref (b 4), .ref (b 5), .ref (b 6), .ref (b 7), .ref (b 8), .int (I 10), .ref (b 9), .int (nI t), .int (I 13), .int (I 14), .int (I 15), .long W, .int (I 17), .int (I 18), .int (I 19), .int (I 20), .ref (b 10), .ref (b 11), .ref (b 12), .ref (b 13), .ref (b 14), .ref (b 15), .int (nI q), .int (nI mm), .ref (b 16), .ref (b 17), .ref (b 18), .ref (b 19), .ref (b 20), .ref (b 21), .int (I 35), .int (I 36), .int (I 37), .ref (b 22), .int (nI bd), .int (I 40), .int (I 41), .ref (b 23), .int (I 43), .ref (b 24)])), (b 2, .inl (g 0, 50, .inl a_row)), (b 4, .inl (g 0, 40, .inl a_crosses)), (b 5, .inl (g 0, 40, .inl a_truth))] := by
          intro v_25 v_26 h6 hk_4 hA_10 hB_11 hF_12 hj_27 hA_28 hB_29 hF_30
          refine s_iload B dX9_wrong_106 4 rfl ?_
          refine s_lv (lv' := [(0, _), (1, _), (2, _), (3, _), (5, _)]) [0, 1, 2, 3, 5] rfl ?_
          exact M108 v_25 v_26 v_7 h6 hk_4 hA_10 hB_11 hF_12 (by omega) hA_28 hB_29 hF_30
        refine s_iload B dX9_wrong_22 5 rfl ?_
        refine s_aload_n B dX9_wrong_24 rfl 0 rfl ?_
        refine s_get (T := TX9) B inX9 0 rfl rfl 2 (Nat.le_of_ble_eq_true rfl) fl_X9_13 rfl rfl dX9_wrong_25 ?_
        refine s_iconst B dX9_wrong_28 ic_0 ?_
        refine s_ialdN B 1 0 rfl rfl dX9_wrong_29 (by decide) (by decide) ?_
        refine s_st (st' := [.int (nI dz), .int (nI k_8)]) (by rw [hrz]) ?_
        refine s_icmp_ge (tgt := 116) B dX9_wrong_30 rfl (fun h30 => ?_) (fun h30 => ?_)
        · replace h30 : dz ≤ k_8 := (nI_leI (a := dz) (b := k_8) (by omega) (by omega)).mp h30
          refine s_iload_n B dX9_wrong_116 rfl 1 rfl ?_
          refine s_if_ne (tgt := 124) B dX9_wrong_117 rfl (fun h117 => ?_) (fun h117 => ?_)
          · replace h117 : ¬ k_3 = 0 := fun hh => h117 ((nI_eq (a := k_3) (b := 0) (by omega) (by omega)).mpr hh)
            refine s_iload_n B dX9_wrong_124 rfl 1 rfl ?_
            refine s_iconst B dX9_wrong_125 ic_1 ?_
            refine s_icmp_ne (tgt := 133) B dX9_wrong_126 rfl (fun h126 => ?_) (fun h126 => ?_)
            · replace h126 : ¬ k_3 = 1 := fun hh => h126 ((nI_eq (a := k_3) (b := 1) (by omega) (by omega)).mpr hh)
              refine s_iload B dX9_wrong_133 4 rfl ?_
              refine s_iret B hQ hr dX9_wrong_135 rfl ?_
              exact ⟨(fun G ch9 ev9 lw9 H => (H.wrong_ok hrz hdz (show k_8 = dz by omega) hA_10 hB_11 hF_12 (by first | exact Or.inl ⟨congrArg nI (show k_3 = 0 by omega), rfl⟩ | exact Or.inr (Or.inl ⟨congrArg nI (show k_3 = 1 by omega), rfl⟩) | exact Or.inr (Or.inr ⟨congrArg nI (show k_3 = 2 by omega), rfl⟩)))), rfl⟩
            · replace h126 : k_3 = 1 := (nI_eq (a := k_3) (b := 1) (by omega) (by omega)).mp h126
              refine s_iload_n B dX9_wrong_129 rfl 3 rfl ?_
              refine s_goto (tgt := 135) B dX9_wrong_130 rfl ?_
              refine s_iret B hQ hr dX9_wrong_135 rfl ?_
              exact ⟨(fun G ch9 ev9 lw9 H => (H.wrong_ok hrz hdz (show k_8 = dz by omega) hA_10 hB_11 hF_12 (by first | exact Or.inl ⟨congrArg nI (show k_3 = 0 by omega), rfl⟩ | exact Or.inr (Or.inl ⟨congrArg nI (show k_3 = 1 by omega), rfl⟩) | exact Or.inr (Or.inr ⟨congrArg nI (show k_3 = 2 by omega), rfl⟩)))), rfl⟩
          · replace h117 : k_3 = 0 := (nI_eq (a := k_3) (b := 0) (by omega) (by omega)).mp h117
            refine s_iload_n B dX9_wrong_120 rfl 2 rfl ?_
            refine s_goto (tgt := 135) B dX9_wrong_121 rfl ?_
            refine s_iret B hQ hr dX9_wrong_135 rfl ?_
            exact ⟨(fun G ch9 ev9 lw9 H => (H.wrong_ok hrz hdz (show k_8 = dz by omega) hA_10 hB_11 hF_12 (by first | exact Or.inl ⟨congrArg nI (show k_3 = 0 by omega), rfl⟩ | exact Or.inr (Or.inl ⟨congrArg nI (show k_3 = 1 by omega), rfl⟩) | exact Or.inr (Or.inr ⟨congrArg nI (show k_3 = 2 by omega), rfl⟩)))), rfl⟩
        · replace h30 : ¬ dz ≤ k_8 := fun hh => h30 ((nI_leI (a := dz) (b := k_8) (by omega) (by omega)).mpr hh)
          refine s_iload_n B dX9_wrong_33 rfl 2 rfl ?_
          refine s_aload_n B dX9_wrong_34 rfl 0 rfl ?_
          refine s_get (T := TX9) B inX9 0 rfl rfl 5 (Nat.le_of_ble_eq_true rfl) fl_X9_19 rfl rfl dX9_wrong_35 ?_
          refine s_iload B dX9_wrong_38 5 rfl ?_
          refine s_ialdN B 2 0 rfl rfl dX9_wrong_40 (by omega) (by decide) ?_
          refine s_aload_n B dX9_wrong_41 rfl 0 rfl ?_
          refine s_get (T := TX9) B inX9 0 rfl rfl 6 (Nat.le_of_ble_eq_true rfl) fl_X9_22 rfl rfl dX9_wrong_42 ?_
          refine s_iload B dX9_wrong_45 5 rfl ?_
          refine s_ialdN B 3 0 rfl rfl dX9_wrong_47 (by omega) (by decide) ?_
          refine s_iconst B dX9_wrong_48 ic_m1 ?_
          refine s_ixor B dX9_wrong_49 ?_
          refine s_iand B dX9_wrong_50 ?_
          refine s_callSi B hsc (c_X9_ones l D g ((a_crosses k_8) &&& ((a_truth k_8) ^^^ (-1)))) (gw_S ml_X9_244 sm_yX9_ones ini_RX9 co_yX9_ones) hd_X9_ones rfl rfl ⟨(Nat.le_of_ble_eq_true rfl), (Nat.le_of_ble_eq_true rfl)⟩ [] [0, 1, 2, 3, 4] rfl rfl rfl rfl rfl (Nat.le_of_ble_eq_true rfl) dX9_wrong_51 (fun r_13 u_14 hpo => ?_)
          obtain ⟨⟨c_15, rfl, ho_16, ho_17, ho_18⟩, rfl⟩ := hpo
          refine s_ws (ws' := [(b 0, .inr (9, [.int (nI n), .ref (b 1), .ref (b 2), .int (nI 0), .ref (b 3), .ref (b 4), .ref (b 5), .ref (b 6), .ref (b 7), .ref (b 8), .int (I 10), .ref (b 9), .int (nI t), .int (I 13), .int (I 14), .int (I 15), .long W, .int (I 17), .int (I 18), .int (I 19), .int (I 20), .ref (b 10), .ref (b 11), .ref (b 12), .ref (b 13), .ref (b 14), .ref (b 15), .int (nI q), .int (nI mm), .ref (b 16), .ref (b 17), .ref (b 18), .ref (b 19), .ref (b 20), .ref (b 21), .int (I 35), .int (I 36), .int (I 37), .ref (b 22), .int (nI bd), .int (I 40), .int (I 41), .ref (b 23), .int (I 43), .ref (b 24)])), (b 2, .inl (g 0, 50, .inl a_row)), (b 4, .inl (g 0, 40, .inl a_crosses)), (b 5, .inl (g 0, 40, .inl a_truth))]) rfl ?_
          refine s_iadd B dX9_wrong_54 ?_
          refine s_istore_n (lv' := [(2, _), (0, _), (1, _), (3, _), (4, _), (5, _)]) B dX9_wrong_55 rfl (Nat.le_of_ble_eq_true rfl) rfl ?_
          refine s_iload_n B dX9_wrong_56 rfl 3 rfl ?_
          refine s_aload_n B dX9_wrong_57 rfl 1 rfl ?_
          refine s_get (T := TX9) B inX9 0 rfl rfl 6 (Nat.le_of_ble_eq_true rfl) fl_X9_22 rfl rfl dX9_wrong_58 ?_
          refine s_iload B dX9_wrong_61 5 rfl ?_
          refine s_ialdN B 3 0 rfl rfl dX9_wrong_63 (by omega) (by decide) ?_
          refine s_aload_n B dX9_wrong_64 rfl 1 rfl ?_
          refine s_get (T := TX9) B inX9 0 rfl rfl 5 (Nat.le_of_ble_eq_true rfl) fl_X9_19 rfl rfl dX9_wrong_65 ?_
          refine s_iload B dX9_wrong_68 5 rfl ?_
          refine s_ialdN B 2 0 rfl rfl dX9_wrong_70 (by omega) (by decide) ?_
          refine s_iconst B dX9_wrong_71 ic_m1 ?_
          refine s_ixor B dX9_wrong_72 ?_
          refine s_iand B dX9_wrong_73 ?_
          refine s_callSi B hsc (c_X9_ones l D g ((a_truth k_8) &&& ((a_crosses k_8) ^^^ (-1)))) (gw_S ml_X9_244 sm_yX9_ones ini_RX9 co_yX9_ones) hd_X9_ones rfl rfl ⟨(Nat.le_of_ble_eq_true rfl), (Nat.le_of_ble_eq_true rfl)⟩ [] [0, 1, 2, 3, 4] rfl rfl rfl rfl rfl (Nat.le_of_ble_eq_true rfl) dX9_wrong_74 (fun r_19 u_20 hpo => ?_)
          obtain ⟨⟨c_21, rfl, ho_22, ho_23, ho_24⟩, rfl⟩ := hpo
          refine s_ws (ws' := [(b 0, .inr (9, [.int (nI n), .ref (b 1), .ref (b 2), .int (nI 0), .ref (b 3), .ref (b 4), .ref (b 5), .ref (b 6), .ref (b 7), .ref (b 8), .int (I 10), .ref (b 9), .int (nI t), .int (I 13), .int (I 14), .int (I 15), .long W, .int (I 17), .int (I 18), .int (I 19), .int (I 20), .ref (b 10), .ref (b 11), .ref (b 12), .ref (b 13), .ref (b 14), .ref (b 15), .int (nI q), .int (nI mm), .ref (b 16), .ref (b 17), .ref (b 18), .ref (b 19), .ref (b 20), .ref (b 21), .int (I 35), .int (I 36), .int (I 37), .ref (b 22), .int (nI bd), .int (I 40), .int (I 41), .ref (b 23), .int (I 43), .ref (b 24)])), (b 2, .inl (g 0, 50, .inl a_row)), (b 4, .inl (g 0, 40, .inl a_crosses)), (b 5, .inl (g 0, 40, .inl a_truth))]) rfl ?_
          refine s_iadd B dX9_wrong_77 ?_
          refine s_istore_n (lv' := [(3, _), (2, _), (0, _), (1, _), (4, _), (5, _)]) B dX9_wrong_78 rfl (Nat.le_of_ble_eq_true rfl) rfl ?_
          refine s_iload B dX9_wrong_79 4 rfl ?_
          refine s_if_ge (tgt := 106) B dX9_wrong_81 rfl (fun h81 => ?_) (fun h81 => ?_)
          · refine s_lv (lv' := [(0, _), (1, _), (2, _), (3, _), (4, _), (5, _)]) [2, 3, 1, 0, 4, 5] rfl ?_
            exact M106 (v_5 + (nI c_15)) (v_6 + (nI c_21)) h6 hk_4 hA_10 hB_11 hF_12 (by omega) (sum_s hA_10 (fun q => and_256 (q _ (by omega)).1) ho_18) (sum_s hB_11 (fun q => and_256 (q _ (by omega)).2) ho_24) (FI_k hF_12 (by first | exact fun q => absurd q (by assumption) | exact fun q => absurd q (Int32.not_lt.mpr (by assumption)) | exact fun _ => decide_eq_false (fun w => w (by assumption))))
          · refine s_aload_n B dX9_wrong_84 rfl 2 rfl ?_
            refine s_get (T := TX9) B inX9 0 rfl rfl 5 (Nat.le_of_ble_eq_true rfl) fl_X9_19 rfl rfl dX9_wrong_85 ?_
            refine s_iload B dX9_wrong_88 5 rfl ?_
            refine s_ialdN B 2 0 rfl rfl dX9_wrong_90 (by omega) (by decide) ?_
            refine s_aload_n B dX9_wrong_91 rfl 2 rfl ?_
            refine s_get (T := TX9) B inX9 0 rfl rfl 6 (Nat.le_of_ble_eq_true rfl) fl_X9_22 rfl rfl dX9_wrong_92 ?_
            refine s_iload B dX9_wrong_95 5 rfl ?_
            refine s_ialdN B 3 0 rfl rfl dX9_wrong_97 (by omega) (by decide) ?_
            refine s_icmp_eq (tgt := 106) B dX9_wrong_98 rfl (fun h98 => ?_) (fun h98 => ?_)
            · refine s_lv (lv' := [(0, _), (1, _), (2, _), (3, _), (4, _), (5, _)]) [2, 3, 1, 0, 4, 5] rfl ?_
              exact M106 (v_5 + (nI c_15)) (v_6 + (nI c_21)) h6 hk_4 hA_10 hB_11 hF_12 (by omega) (sum_s hA_10 (fun q => and_256 (q _ (by omega)).1) ho_18) (sum_s hB_11 (fun q => and_256 (q _ (by omega)).2) ho_24) (FI_k hF_12 (by first | exact fun q => absurd q (by assumption) | exact fun q => absurd q (Int32.not_lt.mpr (by assumption)) | exact fun _ => decide_eq_false (fun w => w (by assumption))))
            · refine s_iload B dX9_wrong_101 5 rfl ?_
              refine s_goto (tgt := 108) B dX9_wrong_103 rfl ?_
              refine s_lv (lv' := [(0, _), (1, _), (2, _), (3, _), (5, _)]) [2, 3, 1, 0, 5] rfl ?_
              exact M108 (v_5 + (nI c_15)) (v_6 + (nI c_21)) (nI k_8) h6 hk_4 hA_10 hB_11 hF_12 (by omega) (sum_s hA_10 (fun q => and_256 (q _ (by omega)).1) ho_18) (sum_s hB_11 (fun q => and_256 (q _ (by omega)).2) ho_24) (FI_n hF_12 (by first | assumption | exact Int32.not_le.mp (by assumption)) (by omega) (decide_eq_true (by assumption)))
    refine s_iconst B dX9_wrong_11 ic_0 ?_
    refine s_istore_n (lv' := [(2, _), (0, _), (1, _)]) B dX9_wrong_12 rfl (Nat.le_of_ble_eq_true rfl) rfl ?_
    refine s_iconst B dX9_wrong_13 ic_0 ?_
    refine s_istore_n (lv' := [(3, _), (2, _), (0, _), (1, _)]) B dX9_wrong_14 rfl (Nat.le_of_ble_eq_true rfl) rfl ?_
    refine s_bipush B dX9_wrong_15 bp_m9 ?_
    refine s_istore (lv' := [(4, _), (3, _), (2, _), (0, _), (1, _)]) B dX9_wrong_17 (Nat.le_of_ble_eq_true rfl) rfl ?_
    refine s_iconst B dX9_wrong_19 ic_0 ?_
    refine s_istore (lv' := [(5, _), (4, _), (3, _), (2, _), (0, _), (1, _)]) B dX9_wrong_20 (Nat.le_of_ble_eq_true rfl) rfl ?_
    refine s_lv (lv' := [(0, _), (1, _), (2, _), (3, _), (4, _), (5, _)]) [4, 5, 3, 2, 1, 0] rfl ?_
    refine s_lve (lv' := [(0, .ref (b 0)), (1, .int (nI k_3)), (2, .int 0), (3, .int 0), (4, .int (-9)), (5, .int (nI 0))]) (by first | rfl | (simp only [if_pos, if_neg]; done)) ?_
    exact L22 _ 0 0 (-9) 0 (Nat.lt_succ_self _) h6 hk_4 (by omega) (fun _ => rfl) (fun _ => rfl) FI_0
  · refine s_iconst B dX9_wrong_9 ic_m1 ?_
    refine s_iret B hQ hr dX9_wrong_10 rfl ?_
    exact ⟨(fun G ch9 ev9 lw9 H => (H.wrong_no h6)), rfl⟩
def rmX9_longest : Room := { frames := 2, cells := 0, slots := 0, locals := 43 }
theorem hd_X9_longest : yX9_longest.cls = RX9 ∧ yX9_longest.cls ≠ "java/lang/invoke/MethodHandle" ∧ yX9_longest.cls ≠ "java/lang/invoke/VarHandle" ∧ (parseMethodDescriptor yX9_longest.desc).map (fun d => d.parameters.length) = some 1 := by decide +kernel
set_option maxHeartbeats 4000000 in
set_option maxRecDepth 100000 in
theorem c_X9_longest (l : Launch) (D : va_G) (g : Nat → ClassId) (b : Nat → Nat) (I : Nat → Int32) (W : Int64) (n p0 t q mm bd : Nat) (a_row : Nat → Int32) (a_crosses : Nat → Int32) (c0 : Int32) (hn : n ≤ 8) (hp : p0 = 0 ∨ p0 = 25) (ht : t ≤ 240) (hq0 : q ≤ 20) (hmm : mm ≤ 20) (hbd : bd ≤ 30) (ok_a_row : RowOk a_row) : Ci l yX9_longest (WW yX9_longest cX9_longest 5 (some FieldType.int)) rmX9_longest D vwCl (TY g) [.ref (b 0), .int c0] [(b 0, .inr (9, [.int (nI n), .ref (b 1), .ref (b 2), .int (nI 0), .ref (b 3), .ref (b 4), .ref (b 5), .ref (b 6), .ref (b 7), .ref (b 8), .int (I 10), .ref (b 9), .int (nI t), .int (I 13), .int (I 14), .int (I 15), .long W, .int (I 17), .int (I 18), .int (I 19), .int (I 20), .ref (b 10), .ref (b 11), .ref (b 12), .ref (b 13), .ref (b 14), .ref (b 15), .int (nI q), .int (nI mm), .ref (b 16), .ref (b 17), .ref (b 18), .ref (b 19), .ref (b 20), .ref (b 21), .int (I 35), .int (I 36), .int (I 37), .ref (b 22), .int (nI bd), .int (I 40), .int (I 41), .ref (b 23), .int (I 43), .ref (b 24)])), (b 2, .inl (g 0, 50, .inl a_row)), (b 4, .inl (g 0, 40, .inl a_crosses))] (fun r u => (∀ (G : MG) (ch9 ev9 tr9 lw9 : MA), RG G n ch9 a_row ev9 a_crosses tr9 lw9 (I 10) → r = aLongest c0 G) ∧ u = [(b 0, .inr (9, [.int (nI n), .ref (b 1), .ref (b 2), .int (nI 0), .ref (b 3), .ref (b 4), .ref (b 5), .ref (b 6), .ref (b 7), .ref (b 8), .int (I 10), .ref (b 9), .int (nI t), .int (I 13), .int (I 14), .int (I 15), .long W, .int (I 17), .int (I 18), .int (I 19), .int (I 20), .ref (b 10), .ref (b 11), .ref (b 12), .ref (b 13), .ref (b 14), .ref (b 15), .int (nI q), .int (nI mm), .ref (b 16), .ref (b 17), .ref (b 18), .ref (b 19), .ref (b 20), .ref (b 21), .int (I 35), .int (I 36), .int (I 37), .ref (b 22), .int (nI bd), .int (I 40), .int (I 41), .ref (b 23), .int (I 43), .ref (b 24)])), (b 2, .inl (g 0, 50, .inl a_row)), (b 4, .inl (g 0, 40, .inl a_crosses))]) := by
  refine ci_in (by decide) (Nat.le_of_ble_eq_true rfl) (a0 := [b 0, b 2, b 4]) rfl (fun p e s m args below meth c A Q hQ B hr hsc => ?_)
  obtain ⟨dz, hdz, hrz⟩ : le40 (a_row 0) := RowOk.at ok_a_row (Or.inl rfl)
  refine s_aload_n B dX9_longest_0 rfl 0 rfl ?_
  refine s_iload_n B dX9_longest_1 rfl 1 rfl ?_
  refine s_callVi B hsc (c_X9_isChild l D g b (upd (upd (upd (upd I 12 (nI t)) 27 (nI q)) 28 (nI mm)) 39 (nI bd)) W n 0 c0) (gw_V ml_X9_206 im_yX9_isChild se_yX9_isChild ini_RX9 co_yX9_isChild) hd_X9_isChild rfl rfl ⟨(Nat.le_of_ble_eq_true rfl), (Nat.le_of_ble_eq_true rfl)⟩ [0] [0, 1, 2, 3, 4] rfl rfl rfl (ci := 9) (q0 := 0) rfl rfl rfl rfl rfl (Nat.le_of_ble_eq_true rfl) dX9_longest_2 (fun r_1 u_2 hpo => ?_)
  obtain ⟨rfl, rfl⟩ := hpo
  refine s_st (st' := [.int (if ¬ c0 < 0 ∧ ¬ nI n - 1 < c0 then 1 else 0)]) rfl ?_
  refine s_ws (ws' := [(b 0, .inr (9, [.int (nI n), .ref (b 1), .ref (b 2), .int (nI 0), .ref (b 3), .ref (b 4), .ref (b 5), .ref (b 6), .ref (b 7), .ref (b 8), .int (I 10), .ref (b 9), .int (nI t), .int (I 13), .int (I 14), .int (I 15), .long W, .int (I 17), .int (I 18), .int (I 19), .int (I 20), .ref (b 10), .ref (b 11), .ref (b 12), .ref (b 13), .ref (b 14), .ref (b 15), .int (nI q), .int (nI mm), .ref (b 16), .ref (b 17), .ref (b 18), .ref (b 19), .ref (b 20), .ref (b 21), .int (I 35), .int (I 36), .int (I 37), .ref (b 22), .int (nI bd), .int (I 40), .int (I 41), .ref (b 23), .int (I 43), .ref (b 24)])), (b 2, .inl (g 0, 50, .inl a_row)), (b 4, .inl (g 0, 40, .inl a_crosses))]) rfl ?_
  refine s_bif_ne (tgt := 10) B dX9_longest_5 rfl (fun h5 => ?_) (fun h5 => ?_)
  · obtain ⟨k_3, hk_4, rfl⟩ := nat_lt1 (N := n) h5.1 h5.2 (by omega)
    have L17 : ∀ (jj17 : Nat) (v_5 : Int32) (v_6 : Int32) (k_7 : Nat), 40 - k_7 < jj17 → (¬ (nI k_3) < 0 ∧ ¬ nI n - 1 < (nI k_3)) → (k_3 < n) → (k_7 ≤ dz) → (v_5 = mMost (fun d => bt (a_crosses d) k_3) k_7 ∧ v_6 = mRun (fun d => bt (a_crosses d) k_3) k_7) → Sx p l e rmX9_longest s m args below meth c D vwCl A 5 Q 17 [(0, .ref (b 0)), (1, .int (nI k_3)), (2, .int v_5), (3, .int v_6), (4, .int (nI k_7))] [] [(b 0, .inr (9, [.int (nI n), .ref (b 1), .ref (b 2), .int (nI 0), .ref (b 3), .ref (b 4), .ref (b 5), .ref (b 6), .ref (b 7), .ref (b 8), .int (I 10), .ref (b 9), .int (nI t), .int (I 13), .int (I 14), .int (I 15), .long W, .int (I 17), .int (I 18), .int (I 19), .int (I 20), .ref (b 10), .ref (b 11), .ref (b 12), .ref (b 13), .ref (b 14), .ref (b 15), .int (nI q), .int (nI mm), .ref (b 16), .ref (b 17), .ref (b 18), .ref (b 19), .ref (b 20), .ref (b 21), .int (I 35), .int (I 36), .int (I 37), .ref (b 22), .int (nI bd), .int (I 40), .int (I 41), .ref (b 23), .int (I 43), .ref (b 24)])), (b 2, .inl (g 0, 50, .inl a_row)), (b 4, .inl (g 0, 40, .inl a_crosses))] := by
      intro jj17
      induction jj17 with
      | zero => intro v_5 v_6 k_7 hj; exact absurd hj (Nat.not_lt_zero _)
      | succ jj17 ih17 =>
        intro v_5 v_6 k_7 hj17 h5 hk_4 h_8 hL_9
        have M61 : ∀ (v_10 : Int32) (v_11 : Int32), (¬ (nI k_3) < 0 ∧ ¬ nI n - 1 < (nI k_3)) → (k_3 < n) → (v_5 = mMost (fun d => bt (a_crosses d) k_3) k_7 ∧ v_6 = mRun (fun d => bt (a_crosses d) k_3) k_7) → (k_7 < dz) → (v_11 = mMost (fun d => bt (a_crosses d) k_3) (k_7 + 1) ∧ v_10 = mRun (fun d => bt (a_crosses d) k_3) (k_7 + 1)) → Sx p l e rmX9_longest s m args below meth c D vwCl A 5 Q 61 [(0, .ref (b 0)), (1, .int (nI k_3)), (3, .int v_10), (4, .int (nI k_7))] [.int v_11] [(b 0, .inr (9, [.int (nI n), .ref (b 1), .ref (b 2), .int (nI 0), .ref (b 3), .ref (b 4), .ref (b 5), .ref (b 6), .ref (b 7), .ref (b 8), .int (I 10), .ref (b 9), .int (nI t), .int (I 13), .int (I 14), .int (I 15), .long W, .int (I 17), .int (I 18), .int (I 19), .int (I 20), .ref (b 10), .ref (b 11), .ref (b 12), .ref (b 13), .ref (b 14), .ref (b 15), .int (nI q), .int (nI mm), .ref (b 16), .ref (b 17), .ref (b 18), .ref (b 19), .ref (b 20), .ref (b 21), .int (I 35), .int (I 36), .int (I 37), .ref (b 22), .int (nI bd), .int (I 40), .int (I 41), .ref (b 23), .int (I 43), .ref (b 24)])), (b 2, .inl (g 0, 50, .inl a_row)), (b 4, .inl (g 0, 40, .inl a_crosses))] := by
          intro v_10 v_11 h5 hk_4 hL_9 hj_12 hL_13
          refine s_istore_n (lv' := [(2, _), (0, _), (1, _), (3, _), (4, _)]) B dX9_longest_61 rfl (Nat.le_of_ble_eq_true rfl) rfl ?_
          refine s_iinc (lv' := [(4, _), (2, _), (0, _), (1, _), (3, _)]) (k := 4) B dX9_longest_62 rfl (ii_n _) (Nat.le_of_ble_eq_true rfl) rfl ?_
          refine s_goto (tgt := 17) B dX9_longest_65 rfl ?_
          refine s_lv (lv' := [(0, _), (1, _), (2, _), (3, _), (4, _)]) [2, 3, 1, 4, 0] rfl ?_
          exact ih17 v_11 v_10 (k_7 + 1) (by omega) h5 hk_4 (by omega) hL_13
        refine s_iload B dX9_longest_17 4 rfl ?_
        refine s_aload_n B dX9_longest_19 rfl 0 rfl ?_
        refine s_get (T := TX9) B inX9 0 rfl rfl 2 (Nat.le_of_ble_eq_true rfl) fl_X9_13 rfl rfl dX9_longest_20 ?_
        refine s_iconst B dX9_longest_23 ic_0 ?_
        refine s_ialdN B 1 0 rfl rfl dX9_longest_24 (by decide) (by decide) ?_
        refine s_st (st' := [.int (nI dz), .int (nI k_7)]) (by rw [hrz]) ?_
        refine s_icmp_ge (tgt := 68) B dX9_longest_25 rfl (fun h25 => ?_) (fun h25 => ?_)
        · replace h25 : dz ≤ k_7 := (nI_leI (a := dz) (b := k_7) (by omega) (by omega)).mp h25
          refine s_iload_n B dX9_longest_68 rfl 2 rfl ?_
          refine s_iret B hQ hr dX9_longest_69 rfl ?_
          exact ⟨(fun G ch9 ev9 tr9 lw9 H => (H.longest_ok (by omega) hrz hdz (show k_7 = dz by omega) hL_9)), rfl⟩
        · replace h25 : ¬ dz ≤ k_7 := fun hh => h25 ((nI_leI (a := dz) (b := k_7) (by omega) (by omega)).mpr hh)
          refine s_aload_n B dX9_longest_28 rfl 0 rfl ?_
          refine s_get (T := TX9) B inX9 0 rfl rfl 5 (Nat.le_of_ble_eq_true rfl) fl_X9_19 rfl rfl dX9_longest_29 ?_
          refine s_iload B dX9_longest_32 4 rfl ?_
          refine s_ialdN B 2 0 rfl rfl dX9_longest_34 (by omega) (by decide) ?_
          refine s_iload_n B dX9_longest_35 rfl 1 rfl ?_
          refine s_ishr B dX9_longest_36 ?_
          refine s_iconst B dX9_longest_37 ic_1 ?_
          refine s_iand B dX9_longest_38 ?_
          refine s_iconst B dX9_longest_39 ic_1 ?_
          refine s_icmp_ne (tgt := 47) B dX9_longest_40 rfl (fun h40 => ?_) (fun h40 => ?_)
          · refine s_iload_n B dX9_longest_47 rfl 3 rfl ?_
            refine s_iconst B dX9_longest_48 ic_1 ?_
            refine s_iadd B dX9_longest_49 ?_
            refine s_istore_n (lv' := [(3, _), (0, _), (1, _), (2, _), (4, _)]) B dX9_longest_50 rfl (Nat.le_of_ble_eq_true rfl) rfl ?_
            refine s_iload_n B dX9_longest_51 rfl 0 rfl ?_
            refine s_iload_n B dX9_longest_52 rfl 3 rfl ?_
            refine s_icmp_le (tgt := 60) B dX9_longest_53 rfl (fun h53 => ?_) (fun h53 => ?_)
            · refine s_iload_n B dX9_longest_60 rfl 3 rfl ?_
              refine s_lv (lv' := [(0, _), (1, _), (3, _), (4, _)]) [1, 2, 0, 4] rfl ?_
              exact M61 (v_6 + 1) v_5 h5 hk_4 hL_9 (by omega) (lg_s (f := (fun d => bt (a_crosses d) k_3)) hL_9 ((if_neg (by show ¬ bt _ _ = true; rw [← bit1_bt (by omega)]; exact h40)).symm) ((if_neg (Int32.not_lt.mpr h53)).symm))
            · refine s_iload_n B dX9_longest_56 rfl 0 rfl ?_
              refine s_goto (tgt := 61) B dX9_longest_57 rfl ?_
              refine s_lv (lv' := [(0, _), (1, _), (3, _), (4, _)]) [1, 2, 0, 4] rfl ?_
              exact M61 (v_6 + 1) (v_6 + 1) h5 hk_4 hL_9 (by omega) (lg_s (f := (fun d => bt (a_crosses d) k_3)) hL_9 ((if_neg (by show ¬ bt _ _ = true; rw [← bit1_bt (by omega)]; exact h40)).symm) ((if_pos (Int32.not_le.mp h53)).symm))
          · refine s_iconst B dX9_longest_43 ic_0 ?_
            refine s_goto (tgt := 50) B dX9_longest_44 rfl ?_
            refine s_istore_n (lv' := [(3, _), (0, _), (1, _), (2, _), (4, _)]) B dX9_longest_50 rfl (Nat.le_of_ble_eq_true rfl) rfl ?_
            refine s_iload_n B dX9_longest_51 rfl 0 rfl ?_
            refine s_iload_n B dX9_longest_52 rfl 3 rfl ?_
            refine s_icmp_le (tgt := 60) B dX9_longest_53 rfl (fun h53 => ?_) (fun h53 => ?_)
            · refine s_iload_n B dX9_longest_60 rfl 3 rfl ?_
              refine s_lv (lv' := [(0, _), (1, _), (3, _), (4, _)]) [1, 2, 0, 4] rfl ?_
              exact M61 0 v_5 h5 hk_4 hL_9 (by omega) (lg_s (f := (fun d => bt (a_crosses d) k_3)) hL_9 ((if_pos (by show bt _ _ = true; rw [← bit1_bt (by omega)]; exact h40)).symm) ((if_neg (Int32.not_lt.mpr h53)).symm))
            · refine s_iload_n B dX9_longest_56 rfl 0 rfl ?_
              refine s_goto (tgt := 61) B dX9_longest_57 rfl ?_
              refine s_istore_n (lv' := [(2, _), (3, _), (0, _), (1, _), (4, _)]) B dX9_longest_61 rfl (Nat.le_of_ble_eq_true rfl) rfl ?_
              refine s_iinc (lv' := [(4, _), (2, _), (3, _), (0, _), (1, _)]) (k := 4) B dX9_longest_62 rfl (ii_n _) (Nat.le_of_ble_eq_true rfl) rfl ?_
              refine s_goto (tgt := 17) B dX9_longest_65 rfl ?_
              refine s_lv (lv' := [(0, _), (1, _), (2, _), (3, _), (4, _)]) [3, 4, 1, 2, 0] rfl ?_
              exact ih17 0 0 (k_7 + 1) (by omega) h5 hk_4 (by omega) (lg_s (f := (fun d => bt (a_crosses d) k_3)) hL_9 ((if_pos (by show bt _ _ = true; rw [← bit1_bt (by omega)]; exact h40)).symm) ((if_pos (Int32.not_le.mp h53)).symm))
    refine s_iconst B dX9_longest_10 ic_0 ?_
    refine s_istore_n (lv' := [(2, _), (0, _), (1, _)]) B dX9_longest_11 rfl (Nat.le_of_ble_eq_true rfl) rfl ?_
    refine s_iconst B dX9_longest_12 ic_0 ?_
    refine s_istore_n (lv' := [(3, _), (2, _), (0, _), (1, _)]) B dX9_longest_13 rfl (Nat.le_of_ble_eq_true rfl) rfl ?_
    refine s_iconst B dX9_longest_14 ic_0 ?_
    refine s_istore (lv' := [(4, _), (3, _), (2, _), (0, _), (1, _)]) B dX9_longest_15 (Nat.le_of_ble_eq_true rfl) rfl ?_
    refine s_lv (lv' := [(0, _), (1, _), (2, _), (3, _), (4, _)]) [3, 4, 2, 1, 0] rfl ?_
    refine s_lve (lv' := [(0, .ref (b 0)), (1, .int (nI k_3)), (2, .int 0), (3, .int 0), (4, .int (nI 0))]) (by first | rfl | (simp only [if_pos, if_neg]; done)) ?_
    exact L17 _ 0 0 0 (Nat.lt_succ_self _) h5 hk_4 (by omega) (⟨rfl, rfl⟩)
  · refine s_iconst B dX9_longest_8 ic_m1 ?_
    refine s_iret B hQ hr dX9_longest_9 rfl ?_
    exact ⟨(fun G ch9 ev9 tr9 lw9 H => (H.longest_no h5)), rfl⟩
/-! MANY -/
def aMany (w : Int32) (G : MG) (rc sz tn : Nat) : Int32 := if w = 0 then nI (gN G) else if w = 1 then mSumI (fun d => mPop (gCr G d)) 40 else if w = 2 then nI rc else if w = 3 then nI sz else if w = 4 then nI tn else -1
theorem RG.many_1 {G : MG} {n : Nat} {ch row ev cr tr lw : MA} {z : Int32} (H : RG G n ch row ev cr tr lw z) {w v : Int32} {k rc sz tn : Nat} (h0 : w = 1) (hk : k = 40) (hv : Sm cr cr → v = mSumI (fun d => mPop (cr d)) k) : v = aMany w G rc sz tn := by
  unfold aMany
  rw [if_neg (by rw [h0]; decide), if_pos h0, hv (fun d hd => ⟨(H.sm d hd).1, (H.sm d hd).1⟩), hk]
  exact mSumI_cg _ (fun d hd => by
    show mPop _ = mPop _
    rw [H.2.2.2.2.2.1 d hd])
def rmX9_many : Room := { frames := 1, cells := 0, slots := 0, locals := 22 }
theorem hd_X9_many : yX9_many.cls = RX9 ∧ yX9_many.cls ≠ "java/lang/invoke/MethodHandle" ∧ yX9_many.cls ≠ "java/lang/invoke/VarHandle" ∧ (parseMethodDescriptor yX9_many.desc).map (fun d => d.parameters.length) = some 1 := by decide +kernel
set_option maxHeartbeats 4000000 in
set_option maxRecDepth 100000 in
theorem c_X9_many (l : Launch) (D : va_G) (g : Nat → ClassId) (b : Nat → Nat) (I : Nat → Int32) (W : Int64) (n p0 t q mm bd : Nat) (a_crosses : Nat → Int32) (w0 : Int32) (hn : n ≤ 8) (hp : p0 = 0 ∨ p0 = 25) (ht : t ≤ 240) (hq0 : q ≤ 20) (hmm : mm ≤ 20) (hbd : bd ≤ 30) : Ci l yX9_many (WW yX9_many cX9_many 4 (some FieldType.int)) rmX9_many D vwCl (TY g) [.ref (b 0), .int w0] [(b 0, .inr (9, [.int (nI n), .ref (b 1), .ref (b 2), .int (nI p0), .ref (b 3), .ref (b 4), .ref (b 5), .ref (b 6), .ref (b 7), .ref (b 8), .int (I 10), .ref (b 9), .int (nI t), .int (I 13), .int (I 14), .int (I 15), .long W, .int (I 17), .int (I 18), .int (I 19), .int (I 20), .ref (b 10), .ref (b 11), .ref (b 12), .ref (b 13), .ref (b 14), .ref (b 15), .int (nI q), .int (nI mm), .ref (b 16), .ref (b 17), .ref (b 18), .ref (b 19), .ref (b 20), .ref (b 21), .int (I 35), .int (I 36), .int (I 37), .ref (b 22), .int (nI bd), .int (I 40), .int (I 41), .ref (b 23), .int (I 43), .ref (b 24)])), (b 4, .inl (g 0, 40, .inl a_crosses))] (fun r u => (∀ (G : MG) (ch9 rw9 ev9 tr9 lw9 : MA), RG G n ch9 rw9 ev9 a_crosses tr9 lw9 (I 10) → r = aMany w0 G q t bd) ∧ u = [(b 0, .inr (9, [.int (nI n), .ref (b 1), .ref (b 2), .int (nI p0), .ref (b 3), .ref (b 4), .ref (b 5), .ref (b 6), .ref (b 7), .ref (b 8), .int (I 10), .ref (b 9), .int (nI t), .int (I 13), .int (I 14), .int (I 15), .long W, .int (I 17), .int (I 18), .int (I 19), .int (I 20), .ref (b 10), .ref (b 11), .ref (b 12), .ref (b 13), .ref (b 14), .ref (b 15), .int (nI q), .int (nI mm), .ref (b 16), .ref (b 17), .ref (b 18), .ref (b 19), .ref (b 20), .ref (b 21), .int (I 35), .int (I 36), .int (I 37), .ref (b 22), .int (nI bd), .int (I 40), .int (I 41), .ref (b 23), .int (I 43), .ref (b 24)])), (b 4, .inl (g 0, 40, .inl a_crosses))]) := by
  refine ci_in (by decide) (Nat.le_of_ble_eq_true rfl) (a0 := [b 0, b 4]) rfl (fun p e s m args below meth c A Q hQ B hr hsc => ?_)
  have L43 : ∀ (jj43 : Nat) (v_1 : Int32) (k_2 : Nat), 40 - k_2 < jj43 → (¬ w0 = 0) → (w0 = 1) → (k_2 ≤ 40) → (Sm a_crosses a_crosses → v_1 = mSumI (fun d => mPop (a_crosses d)) k_2) → Sx p l e rmX9_many s m args below meth c D vwCl A 4 Q 43 [(0, .ref (b 0)), (2, .int v_1), (3, .int (nI k_2))] [] [(b 0, .inr (9, [.int (nI n), .ref (b 1), .ref (b 2), .int (nI p0), .ref (b 3), .ref (b 4), .ref (b 5), .ref (b 6), .ref (b 7), .ref (b 8), .int (I 10), .ref (b 9), .int (nI t), .int (I 13), .int (I 14), .int (I 15), .long W, .int (I 17), .int (I 18), .int (I 19), .int (I 20), .ref (b 10), .ref (b 11), .ref (b 12), .ref (b 13), .ref (b 14), .ref (b 15), .int (nI q), .int (nI mm), .ref (b 16), .ref (b 17), .ref (b 18), .ref (b 19), .ref (b 20), .ref (b 21), .int (I 35), .int (I 36), .int (I 37), .ref (b 22), .int (nI bd), .int (I 40), .int (I 41), .ref (b 23), .int (I 43), .ref (b 24)])), (b 4, .inl (g 0, 40, .inl a_crosses))] := by
    intro jj43
    induction jj43 with
    | zero => intro v_1 k_2 hj; exact absurd hj (Nat.not_lt_zero _)
    | succ jj43 ih43 =>
      intro v_1 k_2 hj43 k3_0 k3_1 h_3 hS_4
      refine s_iload_n B dX9_many_43 rfl 2 rfl ?_
      refine s_bipush B dX9_many_44 bp_40 ?_
      refine s_icmp_ge (tgt := 67) B dX9_many_46 rfl (fun h46 => ?_) (fun h46 => ?_)
      · replace h46 : 40 ≤ k_2 := (nI_leI (a := 40) (b := k_2) (by omega) (by omega)).mp h46
        refine s_iload_n B dX9_many_67 rfl 1 rfl ?_
        refine s_iret B hQ hr dX9_many_68 rfl ?_
        exact ⟨(fun G ch9 rw9 ev9 tr9 lw9 H => (H.many_1 (by assumption) (show k_2 = 40 by omega) hS_4)), rfl⟩
      · replace h46 : ¬ 40 ≤ k_2 := fun hh => h46 ((nI_leI (a := 40) (b := k_2) (by omega) (by omega)).mpr hh)
        refine s_iload_n B dX9_many_49 rfl 1 rfl ?_
        refine s_aload_n B dX9_many_50 rfl 0 rfl ?_
        refine s_get (T := TX9) B inX9 0 rfl rfl 5 (Nat.le_of_ble_eq_true rfl) fl_X9_19 rfl rfl dX9_many_51 ?_
        refine s_iload_n B dX9_many_54 rfl 2 rfl ?_
        refine s_ialdN B 1 0 rfl rfl dX9_many_55 (by omega) (by decide) ?_
        refine s_callSi B hsc (c_X9_ones l D g (a_crosses k_2)) (gw_S ml_X9_244 sm_yX9_ones ini_RX9 co_yX9_ones) hd_X9_ones rfl rfl ⟨(Nat.le_of_ble_eq_true rfl), (Nat.le_of_ble_eq_true rfl)⟩ [] [0, 1, 2, 3, 4] rfl rfl rfl rfl rfl (Nat.le_of_ble_eq_true rfl) dX9_many_56 (fun r_5 u_6 hpo => ?_)
        obtain ⟨⟨c_7, rfl, ho_8, ho_9, ho_10⟩, rfl⟩ := hpo
        refine s_ws (ws' := [(b 0, .inr (9, [.int (nI n), .ref (b 1), .ref (b 2), .int (nI p0), .ref (b 3), .ref (b 4), .ref (b 5), .ref (b 6), .ref (b 7), .ref (b 8), .int (I 10), .ref (b 9), .int (nI t), .int (I 13), .int (I 14), .int (I 15), .long W, .int (I 17), .int (I 18), .int (I 19), .int (I 20), .ref (b 10), .ref (b 11), .ref (b 12), .ref (b 13), .ref (b 14), .ref (b 15), .int (nI q), .int (nI mm), .ref (b 16), .ref (b 17), .ref (b 18), .ref (b 19), .ref (b 20), .ref (b 21), .int (I 35), .int (I 36), .int (I 37), .ref (b 22), .int (nI bd), .int (I 40), .int (I 41), .ref (b 23), .int (I 43), .ref (b 24)])), (b 4, .inl (g 0, 40, .inl a_crosses))]) rfl ?_
        refine s_iadd B dX9_many_59 ?_
        refine s_istore_n (lv' := [(2, _), (0, _), (3, _)]) B dX9_many_60 rfl (Nat.le_of_ble_eq_true rfl) rfl ?_
        refine s_iinc (lv' := [(3, _), (2, _), (0, _)]) (k := 2) B dX9_many_61 rfl (ii_n _) (Nat.le_of_ble_eq_true rfl) rfl ?_
        refine s_goto (tgt := 43) B dX9_many_64 rfl ?_
        refine s_lv (lv' := [(0, _), (2, _), (3, _)]) [2, 1, 0] rfl ?_
        exact ih43 (v_1 + (nI c_7)) (k_2 + 1) (by omega) k3_0 k3_1 (by omega) (sum_s hS_4 (fun q => (q _ (by omega)).1) ho_10)
  refine s_iconst B dX9_many_0 ic_0 ?_
  refine s_istore_n (lv' := [(2, _), (0, _), (1, _)]) B dX9_many_1 rfl (Nat.le_of_ble_eq_true rfl) rfl ?_
  refine s_iload_n B dX9_many_2 rfl 2 rfl ?_
  by_cases k3_0 : w0 = 0
  · refine s_tableIn (off := 33) (tgt := 36) B dX9_many_3 (by rw [k3_0]; decide) (by rw [k3_0]; decide) (by rw [k3_0]; rfl) rfl ?_
    refine s_aload_n B dX9_many_36 rfl 1 rfl ?_
    refine s_get (T := TX9) B inX9 0 rfl rfl 0 (Nat.le_of_ble_eq_true rfl) fl_X9_91 rfl rfl dX9_many_37 ?_
    refine s_iret B hQ hr dX9_many_40 rfl ?_
    exact ⟨(fun G ch9 rw9 ev9 tr9 lw9 H => (by have e9 := H.2.1.1; clear hQ B hr hsc H; grind [aMany])), rfl⟩
  · by_cases k3_1 : w0 = 1
    · refine s_tableIn (off := 38) (tgt := 41) B dX9_many_3 (by rw [k3_1]; decide) (by rw [k3_1]; decide) (by rw [k3_1]; rfl) rfl ?_
      refine s_iconst B dX9_many_41 ic_0 ?_
      refine s_istore_n (lv' := [(3, _), (2, _), (0, _), (1, _)]) B dX9_many_42 rfl (Nat.le_of_ble_eq_true rfl) rfl ?_
      refine s_lv (lv' := [(0, _), (2, _), (3, _)]) [2, 1, 0] rfl ?_
      refine s_lve (lv' := [(0, .ref (b 0)), (2, .int 0), (3, .int (nI 0))]) (by first | rfl | (simp only [if_pos, if_neg]; done)) ?_
      exact L43 _ 0 0 (Nat.lt_succ_self _) k3_0 k3_1 (by omega) (fun _ => rfl)
    · by_cases k3_2 : w0 = 2
      · refine s_tableIn (off := 66) (tgt := 69) B dX9_many_3 (by rw [k3_2]; decide) (by rw [k3_2]; decide) (by rw [k3_2]; rfl) rfl ?_
        refine s_aload_n B dX9_many_69 rfl 1 rfl ?_
        refine s_get (T := TX9) B inX9 0 rfl rfl 27 (Nat.le_of_ble_eq_true rfl) fl_X9_199 rfl rfl dX9_many_70 ?_
        refine s_iret B hQ hr dX9_many_73 rfl ?_
        exact ⟨(fun G ch9 rw9 ev9 tr9 lw9 H => (by have e9 := H.2.1.1; clear hQ B hr hsc H; grind [aMany])), rfl⟩
      · by_cases k3_3 : w0 = 3
        · refine s_tableIn (off := 71) (tgt := 74) B dX9_many_3 (by rw [k3_3]; decide) (by rw [k3_3]; decide) (by rw [k3_3]; rfl) rfl ?_
          refine s_aload_n B dX9_many_74 rfl 1 rfl ?_
          refine s_get (T := TX9) B inX9 0 rfl rfl 12 (Nat.le_of_ble_eq_true rfl) fl_X9_94 rfl rfl dX9_many_75 ?_
          refine s_iret B hQ hr dX9_many_78 rfl ?_
          exact ⟨(fun G ch9 rw9 ev9 tr9 lw9 H => (by have e9 := H.2.1.1; clear hQ B hr hsc H; grind [aMany])), rfl⟩
        · by_cases k3_4 : w0 = 4
          · refine s_tableIn (off := 76) (tgt := 79) B dX9_many_3 (by rw [k3_4]; decide) (by rw [k3_4]; decide) (by rw [k3_4]; rfl) rfl ?_
            refine s_aload_n B dX9_many_79 rfl 1 rfl ?_
            refine s_get (T := TX9) B inX9 0 rfl rfl 39 (Nat.le_of_ble_eq_true rfl) fl_X9_283 rfl rfl dX9_many_80 ?_
            refine s_iret B hQ hr dX9_many_83 rfl ?_
            exact ⟨(fun G ch9 rw9 ev9 tr9 lw9 H => (by have e9 := H.2.1.1; clear hQ B hr hsc H; grind [aMany])), rfl⟩
          · refine s_tableOut (tgt := 84) B dX9_many_3 (by have q0 := lv_neT k3_0 (show (0 : Int32).toInt = 0 from by decide); have q1 := lv_neT k3_1 (show (1 : Int32).toInt = 1 from by decide); have q2 := lv_neT k3_2 (show (2 : Int32).toInt = 2 from by decide); have q3 := lv_neT k3_3 (show (3 : Int32).toInt = 3 from by decide); have q4 := lv_neT k3_4 (show (4 : Int32).toInt = 4 from by decide); omega) rfl ?_
            refine s_iconst B dX9_many_84 ic_m1 ?_
            refine s_iret B hQ hr dX9_many_85 rfl ?_
            exact ⟨(fun G ch9 rw9 ev9 tr9 lw9 H => (by have e9 := H.2.1.1; clear hQ B hr hsc H; grind [aMany])), rfl⟩
def rmX9_lends : Room := { frames := 0, cells := 0, slots := 0, locals := 0 }
theorem hd_X9_lends : yX9_lends.cls = RX9 ∧ yX9_lends.cls ≠ "java/lang/invoke/MethodHandle" ∧ yX9_lends.cls ≠ "java/lang/invoke/VarHandle" ∧ (parseMethodDescriptor yX9_lends.desc).map (fun d => d.parameters.length) = some 0 := by decide +kernel
set_option maxHeartbeats 4000000 in
set_option maxRecDepth 100000 in
theorem c_X9_lends (l : Launch) (D : va_G) (g : Nat → ClassId) (b : Nat → Nat) (I : Nat → Int32) (W : Int64) (n p0 t q mm bd : Nat) (a_row : Nat → Int32) (hn : n ≤ 8) (hp : p0 = 0 ∨ p0 = 25) (ht : t ≤ 240) (hq0 : q ≤ 20) (hmm : mm ≤ 20) (hbd : bd ≤ 30) (ok_a_row : RowOk a_row) : Cv l yX9_lends (WW yX9_lends cX9_lends 2 none) rmX9_lends D vwCl (TY g) [.ref (b 0)] [(b 0, .inr (9, [.int (nI n), .ref (b 1), .ref (b 2), .int (nI p0), .ref (b 3), .ref (b 4), .ref (b 5), .ref (b 6), .ref (b 7), .ref (b 8), .int (I 10), .ref (b 9), .int (nI t), .int (I 13), .int (I 14), .int (I 15), .long W, .int (I 17), .int (I 18), .int (I 19), .int (I 20), .ref (b 10), .ref (b 11), .ref (b 12), .ref (b 13), .ref (b 14), .ref (b 15), .int (nI q), .int (nI mm), .ref (b 16), .ref (b 17), .ref (b 18), .ref (b 19), .ref (b 20), .ref (b 21), .int (I 35), .int (I 36), .int (I 37), .ref (b 22), .int (nI bd), .int (I 40), .int (I 41), .ref (b 23), .int (I 43), .ref (b 24)])), (b 2, .inl (g 0, 50, .inl a_row))] (fun u => ∃ (a_row' : Nat → Int32), (RowOk a_row') ∧ (a_row' 0 = a_row 0) ∧ (∀ j : Nat, j < 25 → a_row' j = a_row j) ∧ (∀ i : Nat, i < 25 → a_row' (25 + i) = a_row i) ∧ u = [(b 0, .inr (9, [.int (nI n), .ref (b 1), .ref (b 2), .int (nI 25), .ref (b 3), .ref (b 4), .ref (b 5), .ref (b 6), .ref (b 7), .ref (b 8), .int (I 10), .ref (b 9), .int (nI t), .int (I 13), .int (I 14), .int (I 15), .long W, .int (I 17), .int (I 18), .int (I 19), .int (I 20), .ref (b 10), .ref (b 11), .ref (b 12), .ref (b 13), .ref (b 14), .ref (b 15), .int (nI q), .int (nI mm), .ref (b 16), .ref (b 17), .ref (b 18), .ref (b 19), .ref (b 20), .ref (b 21), .int (I 35), .int (I 36), .int (I 37), .ref (b 22), .int (nI bd), .int (I 40), .int (I 41), .ref (b 23), .int (I 43), .ref (b 24)])), (b 2, .inl (g 0, 50, .inl a_row'))]) := by
  refine cv_in (by decide) (Nat.le_of_ble_eq_true rfl) (a0 := [b 0, b 2]) rfl (fun p e s m args below meth c A Q hQ B hr hsc => ?_)
  have L7 : ∀ (jj7 : Nat) (k_1 : Nat) (a_row_3 : Nat → Int32), 25 - k_1 < jj7 → (k_1 ≤ 25) → (RowOk a_row_3) → (a_row_3 0 = a_row 0) → (∀ j : Nat, j < 25 → a_row_3 j = a_row j) → (∀ i : Nat, i < k_1 → a_row_3 (25 + i) = a_row i) → Sx p l e rmX9_lends s m args below meth c D vwCl A 2 Q 7 [(0, .ref (b 0)), (1, .int (nI k_1))] [] [(b 0, .inr (9, [.int (nI n), .ref (b 1), .ref (b 2), .int (nI 0), .ref (b 3), .ref (b 4), .ref (b 5), .ref (b 6), .ref (b 7), .ref (b 8), .int (I 10), .ref (b 9), .int (nI t), .int (I 13), .int (I 14), .int (I 15), .long W, .int (I 17), .int (I 18), .int (I 19), .int (I 20), .ref (b 10), .ref (b 11), .ref (b 12), .ref (b 13), .ref (b 14), .ref (b 15), .int (nI q), .int (nI mm), .ref (b 16), .ref (b 17), .ref (b 18), .ref (b 19), .ref (b 20), .ref (b 21), .int (I 35), .int (I 36), .int (I 37), .ref (b 22), .int (nI bd), .int (I 40), .int (I 41), .ref (b 23), .int (I 43), .ref (b 24)])), (b 2, .inl (g 0, 50, .inl a_row_3))] := by
    intro jj7
    induction jj7 with
    | zero => intro k_1 a_row_3 hj; exact absurd hj (Nat.not_lt_zero _)
    | succ jj7 ih7 =>
      intro k_1 a_row_3 hj7 h_2 ok_a_row_3 hz_4 hy_5 hD_6
      refine s_iload_n B dX9_lends_7 rfl 1 rfl ?_
      refine s_bipush B dX9_lends_8 bp_25 ?_
      refine s_icmp_ge (tgt := 34) B dX9_lends_10 rfl (fun h10 => ?_) (fun h10 => ?_)
      · replace h10 : 25 ≤ k_1 := (nI_leI (a := 25) (b := k_1) (by omega) (by omega)).mp h10
        refine s_aload_n B dX9_lends_34 rfl 0 rfl ?_
        refine s_bipush B dX9_lends_35 bp_25 ?_
        refine s_put (T := TX9) (ws' := [_, _]) B inX9 tyX9_ok nmX9 0 rfl rfl 3 (Nat.le_of_ble_eq_true rfl) fl_X9_222 rfl rfl rfl rfl (Nat.le_of_ble_eq_true rfl) rfl dX9_lends_37 ?_
        refine s_vret B hQ hr dX9_lends_40 rfl ?_
        exact ⟨a_row_3, ok_a_row_3, (hz_4.trans rfl), (fun j hj => ((hy_5 j hj).trans rfl)), (fun i hi => hD_6 i (by omega)), rfl⟩
      · replace h10 : ¬ 25 ≤ k_1 := fun hh => h10 ((nI_leI (a := 25) (b := k_1) (by omega) (by omega)).mpr hh)
        refine s_aload_n B dX9_lends_13 rfl 0 rfl ?_
        refine s_get (T := TX9) B inX9 0 rfl rfl 2 (Nat.le_of_ble_eq_true rfl) fl_X9_13 rfl rfl dX9_lends_14 ?_
        refine s_bipush B dX9_lends_17 bp_25 ?_
        refine s_iload_n B dX9_lends_19 rfl 1 rfl ?_
        refine s_iaddE B dX9_lends_20 (nI_add 25 k_1) ?_
        refine s_aload_n B dX9_lends_21 rfl 0 rfl ?_
        refine s_get (T := TX9) B inX9 0 rfl rfl 2 (Nat.le_of_ble_eq_true rfl) fl_X9_13 rfl rfl dX9_lends_22 ?_
        refine s_iload_n B dX9_lends_25 rfl 1 rfl ?_
        refine s_ialdN B 1 0 rfl rfl dX9_lends_26 (by omega) (by decide) ?_
        refine s_iastN (ws' := [_, _]) B 1 0 rfl rfl rfl dX9_lends_27 (by omega) (by decide) ?_
        refine s_iinc (lv' := [(1, _), (0, _)]) (k := 1) B dX9_lends_28 rfl (ii_n _) (Nat.le_of_ble_eq_true rfl) rfl ?_
        refine s_goto (tgt := 7) B dX9_lends_31 rfl ?_
        refine s_lv (lv' := [(0, _), (1, _)]) [1, 0] rfl ?_
        exact ih7 (k_1 + 1) (upd a_row_3 (25 + k_1) (a_row_3 k_1)) (by omega) (by omega) (RowOk.lend ok_a_row_3) ((upd_ne _ _ (by omega)).trans (hz_4.trans rfl)) (fun j hj => ((upd_ne _ _ (by omega)).trans ((hy_5 j hj).trans rfl))) (ld_s hD_6 hy_5 (by omega))
  refine s_aload_n B dX9_lends_0 rfl 0 rfl ?_
  refine s_iconst B dX9_lends_1 ic_0 ?_
  refine s_put (T := TX9) (ws' := [_, _]) B inX9 tyX9_ok nmX9 0 rfl rfl 3 (Nat.le_of_ble_eq_true rfl) fl_X9_222 rfl rfl rfl rfl (Nat.le_of_ble_eq_true rfl) rfl dX9_lends_2 ?_
  refine s_iconst B dX9_lends_5 ic_0 ?_
  refine s_istore_n (lv' := [(1, _), (0, _)]) B dX9_lends_6 rfl (Nat.le_of_ble_eq_true rfl) rfl ?_
  refine s_lv (lv' := [(0, _), (1, _)]) [1, 0] rfl ?_
  refine s_lve (lv' := [(0, .ref (b 0)), (1, .int (nI 0))]) (by first | rfl | (simp only [if_pos, if_neg]; done)) ?_
  refine s_ws (ws' := [(b 0, .inr (9, [.int (nI n), .ref (b 1), .ref (b 2), .int (nI 0), .ref (b 3), .ref (b 4), .ref (b 5), .ref (b 6), .ref (b 7), .ref (b 8), .int (I 10), .ref (b 9), .int (nI t), .int (I 13), .int (I 14), .int (I 15), .long W, .int (I 17), .int (I 18), .int (I 19), .int (I 20), .ref (b 10), .ref (b 11), .ref (b 12), .ref (b 13), .ref (b 14), .ref (b 15), .int (nI q), .int (nI mm), .ref (b 16), .ref (b 17), .ref (b 18), .ref (b 19), .ref (b 20), .ref (b 21), .int (I 35), .int (I 36), .int (I 37), .ref (b 22), .int (nI bd), .int (I 40), .int (I 41), .ref (b 23), .int (I 43), .ref (b 24)])), (b 2, .inl (g 0, 50, .inl a_row))]) (by rfl) ?_
  exact L7 _ 0 a_row (Nat.lt_succ_self _) (by omega) ok_a_row rfl (fun j hj => rfl) (fun i hi => absurd hi (Nat.not_lt_zero i))
def rmX9_comes : Room := { frames := 5, cells := 0, slots := 0, locals := 119 }
theorem hd_X9_comes : yX9_comes.cls = RX9 ∧ yX9_comes.cls ≠ "java/lang/invoke/MethodHandle" ∧ yX9_comes.cls ≠ "java/lang/invoke/VarHandle" ∧ (parseMethodDescriptor yX9_comes.desc).map (fun d => d.parameters.length) = some 1 := by decide +kernel
set_option maxHeartbeats 4000000 in
set_option maxRecDepth 100000 in
theorem c_X9_comes (l : Launch) (D : va_G) (g : Nat → ClassId) (b : Nat → Nat) (I : Nat → Int32) (W : Int64) (n p0 t q mm bd : Nat) (a_child : Nat → Int32) (a_row : Nat → Int32) (a_events : Nat → Int32) (a_laws : Nat → Int32) (n1 : Nat) (hn : n ≤ 8) (hp : p0 = 0 ∨ p0 = 25) (ht : t ≤ 240) (hq0 : q ≤ 20) (hmm : mm ≤ 20) (hbd : bd ≤ 30) (ok_a_row : RowOk a_row) (hpre0 : n1 ≤ 64) : Ci l yX9_comes (WW yX9_comes cX9_comes 4 (some FieldType.int)) rmX9_comes D vwCl (TY g) [.ref (b 0), .int (nI n1)] [(b 0, .inr (9, [.int (nI n), .ref (b 1), .ref (b 2), .int (nI p0), .ref (b 3), .ref (b 4), .ref (b 5), .ref (b 6), .ref (b 7), .ref (b 8), .int (I 10), .ref (b 9), .int (nI t), .int (I 13), .int (I 14), .int (I 15), .long W, .int (I 17), .int (I 18), .int (I 19), .int (I 20), .ref (b 10), .ref (b 11), .ref (b 12), .ref (b 13), .ref (b 14), .ref (b 15), .int (nI q), .int (nI mm), .ref (b 16), .ref (b 17), .ref (b 18), .ref (b 19), .ref (b 20), .ref (b 21), .int (I 35), .int (I 36), .int (I 37), .ref (b 22), .int (nI bd), .int (I 40), .int (I 41), .ref (b 23), .int (I 43), .ref (b 24)])), (b 1, .inl (g 0, 32, .inl a_child)), (b 2, .inl (g 0, 50, .inl a_row)), (b 3, .inl (g 0, 40, .inl a_events)), (b 6, .inl (g 0, 4, .inl a_laws))] (fun r u => ∃ (a_row' : Nat → Int32), (RowOk a_row') ∧ (p0 = 25 → a_row' 0 = a_row 0) ∧ (p0 = 25 → ∀ j : Nat, j < 25 → a_row' j = a_row j) ∧ (∀ d : Nat, d ≤ 40 → a_row p0 = nI d → NNr a_row a_laws n p0 → r = mComes (xC a_child 0) (xC a_child 1) (xC a_child 2) (xC a_child 3) a_events a_laws n (s3R a_row p0) d n1) ∧ u = [(b 0, .inr (9, [.int (nI n), .ref (b 1), .ref (b 2), .int (nI p0), .ref (b 3), .ref (b 4), .ref (b 5), .ref (b 6), .ref (b 7), .ref (b 8), .int (I 10), .ref (b 9), .int (nI t), .int (I 13), .int (I 14), .int (I 15), .long W, .int (I 17), .int (I 18), .int (I 19), .int (I 20), .ref (b 10), .ref (b 11), .ref (b 12), .ref (b 13), .ref (b 14), .ref (b 15), .int (nI q), .int (nI mm), .ref (b 16), .ref (b 17), .ref (b 18), .ref (b 19), .ref (b 20), .ref (b 21), .int (I 35), .int (I 36), .int (I 37), .ref (b 22), .int (nI bd), .int (I 40), .int (I 41), .ref (b 23), .int (I 43), .ref (b 24)])), (b 1, .inl (g 0, 32, .inl a_child)), (b 2, .inl (g 0, 50, .inl a_row')), (b 3, .inl (g 0, 40, .inl a_events)), (b 6, .inl (g 0, 4, .inl a_laws))]) := by
  refine ci_in (by decide) (Nat.le_of_ble_eq_true rfl) (a0 := [b 0, b 1, b 2, b 3, b 6]) rfl (fun p e s m args below meth c A Q hQ B hr hsc => ?_)
  have L4 : ∀ (jj4 : Nat) (v_1 : Int32) (k_2 : Nat) (a_row_4 : Nat → Int32), n1 - k_2 < jj4 → (n1 ≤ 64) → (k_2 ≤ n1) → (RowOk a_row_4) → (p0 = 25 → a_row_4 0 = a_row 0) → (p0 = 25 → ∀ j : Nat, j < 25 → a_row_4 j = a_row j) → (∀ d : Nat, d ≤ 40 → a_row p0 = nI d → NNr a_row a_laws n p0 → (GoR a_child a_row a_row_4 a_events a_laws n p0 d k_2 ∧ d + k_2 ≤ 40) ∧ v_1 = mSumI (fun i => mPop (fDI a_child a_row a_events a_laws n p0 d i)) k_2) → Sx p l e rmX9_comes s m args below meth c D vwCl A 4 Q 4 [(0, .ref (b 0)), (1, .int (nI n1)), (2, .int v_1), (3, .int (nI k_2))] [] [(b 0, .inr (9, [.int (nI n), .ref (b 1), .ref (b 2), .int (nI p0), .ref (b 3), .ref (b 4), .ref (b 5), .ref (b 6), .ref (b 7), .ref (b 8), .int (I 10), .ref (b 9), .int (nI t), .int (I 13), .int (I 14), .int (I 15), .long W, .int (I 17), .int (I 18), .int (I 19), .int (I 20), .ref (b 10), .ref (b 11), .ref (b 12), .ref (b 13), .ref (b 14), .ref (b 15), .int (nI q), .int (nI mm), .ref (b 16), .ref (b 17), .ref (b 18), .ref (b 19), .ref (b 20), .ref (b 21), .int (I 35), .int (I 36), .int (I 37), .ref (b 22), .int (nI bd), .int (I 40), .int (I 41), .ref (b 23), .int (I 43), .ref (b 24)])), (b 1, .inl (g 0, 32, .inl a_child)), (b 2, .inl (g 0, 50, .inl a_row_4)), (b 3, .inl (g 0, 40, .inl a_events)), (b 6, .inl (g 0, 4, .inl a_laws))] := by
    intro jj4
    induction jj4 with
    | zero => intro v_1 k_2 a_row_4 hj; exact absurd hj (Nat.not_lt_zero _)
    | succ jj4 ih4 =>
      intro v_1 k_2 a_row_4 hj4 hpre0 h_3 ok_a_row_4 hz_5 hy_6 hG_7
      refine s_iload_n B dX9_comes_4 rfl 3 rfl ?_
      refine s_iload_n B dX9_comes_5 rfl 1 rfl ?_
      refine s_icmp_ge (tgt := 39) B dX9_comes_6 rfl (fun h6 => ?_) (fun h6 => ?_)
      · replace h6 : n1 ≤ k_2 := (nI_leI (a := n1) (b := k_2) (by omega) (by omega)).mp h6
        refine s_iload_n B dX9_comes_39 rfl 2 rfl ?_
        refine s_iret B hQ hr dX9_comes_40 rfl ?_
        exact ⟨a_row_4, ok_a_row_4, (fun hz => ((hz_5 hz).trans rfl)), (fun hz j hj => ((hy_6 hz j hj).trans rfl)), (fun d hd h nn => go_cf (j := 0) (hG_7 d hd h nn) (by omega) (Or.inl (by omega))), rfl⟩
      · replace h6 : ¬ n1 ≤ k_2 := fun hh => h6 ((nI_leI (a := n1) (b := k_2) (by omega) (by omega)).mpr hh)
        refine s_aload_n B dX9_comes_9 rfl 0 rfl ?_
        refine s_get (T := TX9) B inX9 0 rfl rfl 2 (Nat.le_of_ble_eq_true rfl) fl_X9_13 rfl rfl dX9_comes_10 ?_
        refine s_aload_n B dX9_comes_13 rfl 0 rfl ?_
        refine s_get (T := TX9) B inX9 0 rfl rfl 3 (Nat.le_of_ble_eq_true rfl) fl_X9_222 rfl rfl dX9_comes_14 ?_
        refine s_ialdN B 2 0 rfl rfl dX9_comes_17 (by omega) (by decide) ?_
        obtain ⟨d_8, hd_9, hr__10⟩ : le40 (a_row_4 p0) := RowOk.at ok_a_row_4 (by omega)
        refine s_st (st' := [.int (nI d_8)]) (by rw [hr__10]) ?_
        refine s_bipush B dX9_comes_18 bp_40 ?_
        refine s_icmp_ge (tgt := 39) B dX9_comes_20 rfl (fun h20 => ?_) (fun h20 => ?_)
        · replace h20 : 40 ≤ d_8 := (nI_leI (a := 40) (b := d_8) (by omega) (by omega)).mp h20
          refine s_iload_n B dX9_comes_39 rfl 2 rfl ?_
          refine s_iret B hQ hr dX9_comes_40 rfl ?_
          exact ⟨a_row_4, ok_a_row_4, (fun hz => ((hz_5 hz).trans rfl)), (fun hz j hj => ((hy_6 hz j hj).trans rfl)), (fun d hd h nn => go_cf (hG_7 d hd h nn) (by omega) (Or.inr ⟨hr__10, by omega, by omega⟩)), rfl⟩
        · replace h20 : ¬ 40 ≤ d_8 := fun hh => h20 ((nI_leI (a := 40) (b := d_8) (by omega) (by omega)).mpr hh)
          refine s_iload_n B dX9_comes_23 rfl 2 rfl ?_
          refine s_aload_n B dX9_comes_24 rfl 0 rfl ?_
          refine s_callVi B hsc (c_X9_dayGoes l D g b I W n p0 t q mm bd a_child a_row_4 a_events a_laws (by omega) (by omega) (by omega) (by omega) (by omega) (by omega) ok_a_row_4 (by first | assumption | decide | (intro h9; first | assumption | exact absurd h9 (by decide)) | omega | rfl | (refine ⟨_, ?_, by assumption⟩; omega) | (clear hQ B hr hsc; grind))) (gw_V ml_X9_238 im_yX9_dayGoes se_yX9_dayGoes ini_RX9 co_yX9_dayGoes) hd_X9_dayGoes rfl rfl ⟨(Nat.le_of_ble_eq_true rfl), (Nat.le_of_ble_eq_true rfl)⟩ [0, 1, 2, 3, 4] [0, 1, 2, 3, 4] rfl rfl rfl (ci := 9) (q0 := 0) rfl rfl rfl rfl rfl (Nat.le_of_ble_eq_true rfl) dX9_comes_25 (fun r_11 u_12 hpo => ?_)
          obtain ⟨a_row_13, ok_a_row_13, hf_14, hf_15, hf_16, hf_17, rfl⟩ := hpo
          refine s_ws (ws' := [(b 0, .inr (9, [.int (nI n), .ref (b 1), .ref (b 2), .int (nI p0), .ref (b 3), .ref (b 4), .ref (b 5), .ref (b 6), .ref (b 7), .ref (b 8), .int (I 10), .ref (b 9), .int (nI t), .int (I 13), .int (I 14), .int (I 15), .long W, .int (I 17), .int (I 18), .int (I 19), .int (I 20), .ref (b 10), .ref (b 11), .ref (b 12), .ref (b 13), .ref (b 14), .ref (b 15), .int (nI q), .int (nI mm), .ref (b 16), .ref (b 17), .ref (b 18), .ref (b 19), .ref (b 20), .ref (b 21), .int (I 35), .int (I 36), .int (I 37), .ref (b 22), .int (nI bd), .int (I 40), .int (I 41), .ref (b 23), .int (I 43), .ref (b 24)])), (b 1, .inl (g 0, 32, .inl a_child)), (b 2, .inl (g 0, 50, .inl a_row_13)), (b 3, .inl (g 0, 40, .inl a_events)), (b 6, .inl (g 0, 4, .inl a_laws))]) rfl ?_
          refine s_callSi B hsc (c_X9_ones l D g r_11) (gw_S ml_X9_244 sm_yX9_ones ini_RX9 co_yX9_ones) hd_X9_ones rfl rfl ⟨(Nat.le_of_ble_eq_true rfl), (Nat.le_of_ble_eq_true rfl)⟩ [] [0, 1, 2, 3, 4] rfl rfl rfl rfl rfl (Nat.le_of_ble_eq_true rfl) dX9_comes_28 (fun r_18 u_19 hpo => ?_)
          obtain ⟨⟨c_20, rfl, ho_21, ho_22, ho_23⟩, rfl⟩ := hpo
          refine s_ws (ws' := [(b 0, .inr (9, [.int (nI n), .ref (b 1), .ref (b 2), .int (nI p0), .ref (b 3), .ref (b 4), .ref (b 5), .ref (b 6), .ref (b 7), .ref (b 8), .int (I 10), .ref (b 9), .int (nI t), .int (I 13), .int (I 14), .int (I 15), .long W, .int (I 17), .int (I 18), .int (I 19), .int (I 20), .ref (b 10), .ref (b 11), .ref (b 12), .ref (b 13), .ref (b 14), .ref (b 15), .int (nI q), .int (nI mm), .ref (b 16), .ref (b 17), .ref (b 18), .ref (b 19), .ref (b 20), .ref (b 21), .int (I 35), .int (I 36), .int (I 37), .ref (b 22), .int (nI bd), .int (I 40), .int (I 41), .ref (b 23), .int (I 43), .ref (b 24)])), (b 1, .inl (g 0, 32, .inl a_child)), (b 2, .inl (g 0, 50, .inl a_row_13)), (b 3, .inl (g 0, 40, .inl a_events)), (b 6, .inl (g 0, 4, .inl a_laws))]) rfl ?_
          refine s_iadd B dX9_comes_31 ?_
          refine s_istore_n (lv' := [(2, _), (0, _), (1, _), (3, _)]) B dX9_comes_32 rfl (Nat.le_of_ble_eq_true rfl) rfl ?_
          refine s_iinc (lv' := [(3, _), (2, _), (0, _), (1, _)]) (k := 3) B dX9_comes_33 rfl (ii_n _) (Nat.le_of_ble_eq_true rfl) rfl ?_
          refine s_goto (tgt := 4) B dX9_comes_36 rfl ?_
          refine s_lv (lv' := [(0, _), (1, _), (2, _), (3, _)]) [2, 3, 1, 0] rfl ?_
          exact ih4 (v_1 + (nI c_20)) (k_2 + 1) a_row_13 (by omega) hpre0 (by omega) ok_a_row_13 (fun hz => ((hf_15 hz).trans ((hz_5 hz).trans rfl))) (fun hz j hj => ((hf_17 hz j hj).trans ((hy_6 hz j hj).trans rfl))) (fun d hd h nn => go_c hn (hG_7 d hd h nn) hr__10 (by omega) (by assumption) hf_16 ho_23)
  refine s_iconst B dX9_comes_0 ic_0 ?_
  refine s_istore_n (lv' := [(2, _), (0, _), (1, _)]) B dX9_comes_1 rfl (Nat.le_of_ble_eq_true rfl) rfl ?_
  refine s_iconst B dX9_comes_2 ic_0 ?_
  refine s_istore_n (lv' := [(3, _), (2, _), (0, _), (1, _)]) B dX9_comes_3 rfl (Nat.le_of_ble_eq_true rfl) rfl ?_
  refine s_lv (lv' := [(0, _), (1, _), (2, _), (3, _)]) [2, 3, 1, 0] rfl ?_
  refine s_lve (lv' := [(0, .ref (b 0)), (1, .int (nI n1)), (2, .int 0), (3, .int (nI 0))]) (by first | rfl | (simp only [if_pos, if_neg]; done)) ?_
  exact L4 _ 0 0 a_row (Nat.lt_succ_self _) hpre0 (by omega) ok_a_row (fun hz => rfl) (fun hz j hj => rfl) (fun d hd h nn => ⟨⟨GoR_0 h nn, by omega⟩, rfl⟩)
def rmX9_there : Room := { frames := 6, cells := 0, slots := 0, locals := 142 }
theorem hd_X9_there : yX9_there.cls = RX9 ∧ yX9_there.cls ≠ "java/lang/invoke/MethodHandle" ∧ yX9_there.cls ≠ "java/lang/invoke/VarHandle" ∧ (parseMethodDescriptor yX9_there.desc).map (fun d => d.parameters.length) = some 1 := by decide +kernel
set_option maxHeartbeats 4000000 in
set_option maxRecDepth 100000 in
theorem c_X9_there (l : Launch) (D : va_G) (g : Nat → ClassId) (b : Nat → Nat) (I : Nat → Int32) (W : Int64) (n p0 t q mm bd : Nat) (a_child : Nat → Int32) (a_row : Nat → Int32) (a_events : Nat → Int32) (a_laws : Nat → Int32) (n0 : Int32) (hn : n ≤ 8) (hp : p0 = 0 ∨ p0 = 25) (ht : t ≤ 240) (hq0 : q ≤ 20) (hmm : mm ≤ 20) (hbd : bd ≤ 30) (ok_a_row : RowOk a_row) : Ci l yX9_there (WW yX9_there cX9_there 3 (some FieldType.int)) rmX9_there D vwCl (TY g) [.ref (b 0), .int n0] [(b 0, .inr (9, [.int (nI n), .ref (b 1), .ref (b 2), .int (nI 0), .ref (b 3), .ref (b 4), .ref (b 5), .ref (b 6), .ref (b 7), .ref (b 8), .int (I 10), .ref (b 9), .int (nI t), .int (I 13), .int (I 14), .int (I 15), .long W, .int (I 17), .int (I 18), .int (I 19), .int (I 20), .ref (b 10), .ref (b 11), .ref (b 12), .ref (b 13), .ref (b 14), .ref (b 15), .int (nI q), .int (nI mm), .ref (b 16), .ref (b 17), .ref (b 18), .ref (b 19), .ref (b 20), .ref (b 21), .int (I 35), .int (I 36), .int (I 37), .ref (b 22), .int (nI bd), .int (I 40), .int (I 41), .ref (b 23), .int (I 43), .ref (b 24)])), (b 1, .inl (g 0, 32, .inl a_child)), (b 2, .inl (g 0, 50, .inl a_row)), (b 3, .inl (g 0, 40, .inl a_events)), (b 6, .inl (g 0, 4, .inl a_laws))] (fun r u => ∃ (a_row' : Nat → Int32), (RowOk a_row') ∧ (a_row' 0 = a_row 0) ∧ (∀ j : Nat, j < 25 → a_row' j = a_row j) ∧ (∀ (G : MG) (cr9 tr9 : MA), RG G n a_child a_row a_events cr9 tr9 a_laws (I 10) → r = aThere n0 G) ∧ u = [(b 0, .inr (9, [.int (nI n), .ref (b 1), .ref (b 2), .int (nI 0), .ref (b 3), .ref (b 4), .ref (b 5), .ref (b 6), .ref (b 7), .ref (b 8), .int (I 10), .ref (b 9), .int (nI t), .int (I 13), .int (I 14), .int (I 15), .long W, .int (I 17), .int (I 18), .int (I 19), .int (I 20), .ref (b 10), .ref (b 11), .ref (b 12), .ref (b 13), .ref (b 14), .ref (b 15), .int (nI q), .int (nI mm), .ref (b 16), .ref (b 17), .ref (b 18), .ref (b 19), .ref (b 20), .ref (b 21), .int (I 35), .int (I 36), .int (I 37), .ref (b 22), .int (nI bd), .int (I 40), .int (I 41), .ref (b 23), .int (I 43), .ref (b 24)])), (b 1, .inl (g 0, 32, .inl a_child)), (b 2, .inl (g 0, 50, .inl a_row')), (b 3, .inl (g 0, 40, .inl a_events)), (b 6, .inl (g 0, 4, .inl a_laws))]) := by
  refine ci_in (by decide) (Nat.le_of_ble_eq_true rfl) (a0 := [b 0, b 1, b 2, b 3, b 6]) rfl (fun p e s m args below meth c A Q hQ B hr hsc => ?_)
  refine s_iload_n B dX9_there_0 rfl 1 rfl ?_
  refine s_iconst B dX9_there_1 ic_0 ?_
  refine s_bipush B dX9_there_2 bp_20 ?_
  refine s_callSi B hsc (c_X9_in l D g n0 0 20) (gw_S ml_X9_87 sm_yX9_in ini_RX9 co_yX9_in) hd_X9_in rfl rfl ⟨(Nat.le_of_ble_eq_true rfl), (Nat.le_of_ble_eq_true rfl)⟩ [] [0, 1, 2, 3, 4] rfl rfl rfl rfl rfl (Nat.le_of_ble_eq_true rfl) dX9_there_4 (fun r_1 u_2 hpo => ?_)
  obtain ⟨rfl, rfl⟩ := hpo
  refine s_st (st' := [.int (if ¬ n0 < 0 ∧ ¬ 20 < n0 then 1 else 0)]) rfl ?_
  refine s_ws (ws' := [(b 0, .inr (9, [.int (nI n), .ref (b 1), .ref (b 2), .int (nI 0), .ref (b 3), .ref (b 4), .ref (b 5), .ref (b 6), .ref (b 7), .ref (b 8), .int (I 10), .ref (b 9), .int (nI t), .int (I 13), .int (I 14), .int (I 15), .long W, .int (I 17), .int (I 18), .int (I 19), .int (I 20), .ref (b 10), .ref (b 11), .ref (b 12), .ref (b 13), .ref (b 14), .ref (b 15), .int (nI q), .int (nI mm), .ref (b 16), .ref (b 17), .ref (b 18), .ref (b 19), .ref (b 20), .ref (b 21), .int (I 35), .int (I 36), .int (I 37), .ref (b 22), .int (nI bd), .int (I 40), .int (I 41), .ref (b 23), .int (I 43), .ref (b 24)])), (b 1, .inl (g 0, 32, .inl a_child)), (b 2, .inl (g 0, 50, .inl a_row)), (b 3, .inl (g 0, 40, .inl a_events)), (b 6, .inl (g 0, 4, .inl a_laws))]) rfl ?_
  refine s_bif_ne (tgt := 12) B dX9_there_7 rfl (fun h7 => ?_) (fun h7 => ?_)
  · obtain ⟨k_3, hk_4, rfl⟩ := nat_le (N := 20) h7.1 h7.2 (by decide)
    refine s_aload_n B dX9_there_12 rfl 0 rfl ?_
    refine s_callVv B hsc (c_X9_lends l D g b I W n 0 t q mm bd a_row (by omega) (by omega) (by omega) (by omega) (by omega) (by omega) ok_a_row) (gw_V ml_X9_247 im_yX9_lends se_yX9_lends ini_RX9 co_yX9_lends) hd_X9_lends rfl rfl ⟨(Nat.le_of_ble_eq_true rfl), (Nat.le_of_ble_eq_true rfl)⟩ [0, 2] [0, 1, 2, 3, 4] rfl rfl rfl (ci := 9) (q0 := 0) rfl rfl rfl rfl rfl (Nat.le_of_ble_eq_true rfl) dX9_there_13 (fun u_6 hpo => ?_)
    obtain ⟨a_row_7, ok_a_row_7, hf_8, hf_9, hf_10, rfl⟩ := hpo
    refine s_ws (ws' := [(b 0, .inr (9, [.int (nI n), .ref (b 1), .ref (b 2), .int (nI 25), .ref (b 3), .ref (b 4), .ref (b 5), .ref (b 6), .ref (b 7), .ref (b 8), .int (I 10), .ref (b 9), .int (nI t), .int (I 13), .int (I 14), .int (I 15), .long W, .int (I 17), .int (I 18), .int (I 19), .int (I 20), .ref (b 10), .ref (b 11), .ref (b 12), .ref (b 13), .ref (b 14), .ref (b 15), .int (nI q), .int (nI mm), .ref (b 16), .ref (b 17), .ref (b 18), .ref (b 19), .ref (b 20), .ref (b 21), .int (I 35), .int (I 36), .int (I 37), .ref (b 22), .int (nI bd), .int (I 40), .int (I 41), .ref (b 23), .int (I 43), .ref (b 24)])), (b 1, .inl (g 0, 32, .inl a_child)), (b 2, .inl (g 0, 50, .inl a_row_7)), (b 3, .inl (g 0, 40, .inl a_events)), (b 6, .inl (g 0, 4, .inl a_laws))]) rfl ?_
    refine s_aload_n B dX9_there_16 rfl 0 rfl ?_
    refine s_iload_n B dX9_there_17 rfl 1 rfl ?_
    refine s_callVi B hsc (c_X9_comes l D g b I W n 25 t q mm bd a_child a_row_7 a_events a_laws k_3 (by omega) (by omega) (by omega) (by omega) (by omega) (by omega) ok_a_row_7 (by first | assumption | decide | (intro h9; first | assumption | exact absurd h9 (by decide)) | omega | rfl | (refine ⟨_, ?_, by assumption⟩; omega) | (clear hQ B hr hsc; grind))) (gw_V ml_X9_250 im_yX9_comes se_yX9_comes ini_RX9 co_yX9_comes) hd_X9_comes rfl rfl ⟨(Nat.le_of_ble_eq_true rfl), (Nat.le_of_ble_eq_true rfl)⟩ [0, 1, 2, 3, 4] [0, 1, 2, 3, 4] rfl rfl rfl (ci := 9) (q0 := 0) rfl rfl rfl rfl rfl (Nat.le_of_ble_eq_true rfl) dX9_there_18 (fun r_11 u_12 hpo => ?_)
    obtain ⟨a_row_13, ok_a_row_13, hf_14, hf_15, hf_16, rfl⟩ := hpo
    refine s_ws (ws' := [(b 0, .inr (9, [.int (nI n), .ref (b 1), .ref (b 2), .int (nI 25), .ref (b 3), .ref (b 4), .ref (b 5), .ref (b 6), .ref (b 7), .ref (b 8), .int (I 10), .ref (b 9), .int (nI t), .int (I 13), .int (I 14), .int (I 15), .long W, .int (I 17), .int (I 18), .int (I 19), .int (I 20), .ref (b 10), .ref (b 11), .ref (b 12), .ref (b 13), .ref (b 14), .ref (b 15), .int (nI q), .int (nI mm), .ref (b 16), .ref (b 17), .ref (b 18), .ref (b 19), .ref (b 20), .ref (b 21), .int (I 35), .int (I 36), .int (I 37), .ref (b 22), .int (nI bd), .int (I 40), .int (I 41), .ref (b 23), .int (I 43), .ref (b 24)])), (b 1, .inl (g 0, 32, .inl a_child)), (b 2, .inl (g 0, 50, .inl a_row_13)), (b 3, .inl (g 0, 40, .inl a_events)), (b 6, .inl (g 0, 4, .inl a_laws))]) rfl ?_
    refine s_istore_n (lv' := [(2, _), (0, _), (1, _)]) B dX9_there_21 rfl (Nat.le_of_ble_eq_true rfl) rfl ?_
    refine s_aload_n B dX9_there_22 rfl 1 rfl ?_
    refine s_iconst B dX9_there_23 ic_0 ?_
    refine s_put (T := TX9) (ws' := [_, _, _, _, _]) B inX9 tyX9_ok nmX9 0 rfl rfl 3 (Nat.le_of_ble_eq_true rfl) fl_X9_222 rfl rfl rfl rfl (Nat.le_of_ble_eq_true rfl) rfl dX9_there_24 ?_
    refine s_iload_n B dX9_there_27 rfl 0 rfl ?_
    refine s_iret B hQ hr dX9_there_28 rfl ?_
    exact ⟨a_row_13, ok_a_row_13, ((hf_14 rfl).trans (hf_8.trans rfl)), (fun j hj => ((hf_15 rfl j hj).trans ((hf_9 j hj).trans rfl))), (fun G cr9 tr9 H => (H.there ((fun d hd h nn => (hf_16 d hd ((hf_10 0 (by decide)).trans h) (ld_nn hf_10 hn nn)).trans ((mComes_cg (ld_ag hf_10 hn)).trans (th_ok (by omega)))) (gTd G) H.td.2 H.td.1 H.nn))), rfl⟩
  · refine s_iconst B dX9_there_10 ic_m1 ?_
    refine s_iret B hQ hr dX9_there_11 rfl ?_
    exact ⟨a_row, ok_a_row, rfl, (fun j hj => rfl), (fun G cr9 tr9 H => (H.there ((fun d hd h nn => th_no h7) (gTd G) H.td.2 H.td.1 H.nn))), rfl⟩
