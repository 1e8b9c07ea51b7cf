def rmX9_isAway : Room := { frames := 2, cells := 0, slots := 0, locals := 48 }
theorem hd_X9_isAway : yX9_isAway.cls = RX9 ∧ yX9_isAway.cls ≠ "java/lang/invoke/MethodHandle" ∧ yX9_isAway.cls ≠ "java/lang/invoke/VarHandle" ∧ (parseMethodDescriptor yX9_isAway.desc).map (fun d => d.parameters.length) = some 7 := by decide +kernel
set_option maxHeartbeats 4000000 in
set_option maxRecDepth 100000 in
theorem c_X9_isAway (l : Launch) (D : va_G) (g : Nat → ClassId) (b : Nat → Nat) (I : Nat → Int32) (W : Int64) (n p0 : Nat) (a_events : Nat → Int32) (a_laws : Nat → Int32) (kd0 a0 f0 : Int32) (d : Nat) (s0 k0 : Bool) (w0 : Int32) (hd : d < 40) : Ci l yX9_isAway (WW yX9_isAway cX9_isAway 8 (some FieldType.boolean)) rmX9_isAway D vwCl (TY g) [.ref (b 0), .int kd0, .int a0, .int f0, .int (nI d), .int (if s0 = true then 1 else 0), .int (if k0 = true then 1 else 0), .int w0] [(b 0, .inr (9, [.int (nI n), .ref (b 1), .ref (b 2), .int (nI p0), .ref (b 3), .ref (b 4), .ref (b 5), .ref (b 6), .ref (b 7), .ref (b 8), .int (I 10), .ref (b 9), .int (I 12), .int (I 13), .int (I 14), .int (I 15), .long W, .int (I 17), .int (I 18), .int (I 19), .int (I 20), .ref (b 10), .ref (b 11), .ref (b 12), .ref (b 13), .ref (b 14), .ref (b 15), .int (I 27), .int (I 28), .ref (b 16), .ref (b 17), .ref (b 18), .ref (b 19), .ref (b 20), .ref (b 21), .int (I 35), .int (I 36), .int (I 37), .ref (b 22), .int (I 39), .int (I 40), .int (I 41), .ref (b 23), .int (I 43), .ref (b 24)])), (b 3, .inl (g 0, 40, .inl a_events)), (b 6, .inl (g 0, 4, .inl a_laws))] (fun r u => r = (if mAway kd0 a0 f0 (nI d) (a_events d) s0 k0 w0 (a_laws 1) then 1 else 0) ∧ u = [(b 0, .inr (9, [.int (nI n), .ref (b 1), .ref (b 2), .int (nI p0), .ref (b 3), .ref (b 4), .ref (b 5), .ref (b 6), .ref (b 7), .ref (b 8), .int (I 10), .ref (b 9), .int (I 12), .int (I 13), .int (I 14), .int (I 15), .long W, .int (I 17), .int (I 18), .int (I 19), .int (I 20), .ref (b 10), .ref (b 11), .ref (b 12), .ref (b 13), .ref (b 14), .ref (b 15), .int (I 27), .int (I 28), .ref (b 16), .ref (b 17), .ref (b 18), .ref (b 19), .ref (b 20), .ref (b 21), .int (I 35), .int (I 36), .int (I 37), .ref (b 22), .int (I 39), .int (I 40), .int (I 41), .ref (b 23), .int (I 43), .ref (b 24)])), (b 3, .inl (g 0, 40, .inl a_events)), (b 6, .inl (g 0, 4, .inl a_laws))]) := by
  refine ci_in (by decide) (Nat.le_of_ble_eq_true rfl) (a0 := [b 0, b 3, b 6]) rfl (fun p e s m args below meth c A Q hQ B hr hsc => ?_)
  have M22 : (((¬ ¬ (a_events d) &&& 16 = 0)) ∨ ((¬ (a_events d) &&& 16 = 0) ∧ (f0 ≤ 5))) → Sx p l e rmX9_isAway s m args below meth c D vwCl A 8 Q 22 [(0, .ref (b 0)), (1, .int kd0), (2, .int a0), (3, .int f0), (4, .int (nI d)), (5, .int (if s0 = true then 1 else 0)), (6, .int (if k0 = true then 1 else 0)), (7, .int w0)] [] [(b 0, .inr (9, [.int (nI n), .ref (b 1), .ref (b 2), .int (nI p0), .ref (b 3), .ref (b 4), .ref (b 5), .ref (b 6), .ref (b 7), .ref (b 8), .int (I 10), .ref (b 9), .int (I 12), .int (I 13), .int (I 14), .int (I 15), .long W, .int (I 17), .int (I 18), .int (I 19), .int (I 20), .ref (b 10), .ref (b 11), .ref (b 12), .ref (b 13), .ref (b 14), .ref (b 15), .int (I 27), .int (I 28), .ref (b 16), .ref (b 17), .ref (b 18), .ref (b 19), .ref (b 20), .ref (b 21), .int (I 35), .int (I 36), .int (I 37), .ref (b 22), .int (I 39), .int (I 40), .int (I 41), .ref (b 23), .int (I 43), .ref (b 24)])), (b 3, .inl (g 0, 40, .inl a_events)), (b 6, .inl (g 0, 4, .inl a_laws))] := by
    intro hm22_0
    refine s_iload B dX9_isAway_22 6 rfl ?_
    refine s_bif_ne (tgt := 61) B dX9_isAway_24 rfl (fun h24 => ?_) (fun h24 => ?_)
    · refine s_iconst B dX9_isAway_61 ic_0 ?_
      refine s_zret B hQ hr dX9_isAway_62 rfl rfl ?_
      exact ⟨by clear hQ B hr hsc; grind [mAway], rfl⟩
    · refine s_aload_n B dX9_isAway_27 rfl 0 rfl ?_
      refine s_get (T := TX9) B inX9 0 rfl rfl 4 (Nat.le_of_ble_eq_true rfl) fl_X9_16 rfl rfl dX9_isAway_28 ?_
      refine s_iload B dX9_isAway_31 4 rfl ?_
      refine s_ialdN B 1 0 rfl rfl dX9_isAway_33 (by omega) (by decide) ?_
      refine s_bipush B dX9_isAway_34 bp_8 ?_
      refine s_callSi B hsc (c_X9_has l D g (a_events d) 8) (gw_S ml_X9_215 sm_yX9_has ini_RX9 co_yX9_has) hd_X9_has rfl rfl ⟨(Nat.le_of_ble_eq_true rfl), (Nat.le_of_ble_eq_true rfl)⟩ [] [0, 1, 2, 3, 4] rfl rfl rfl rfl rfl (Nat.le_of_ble_eq_true rfl) dX9_isAway_36 (fun r u hpo => ?_)
      obtain ⟨rfl, rfl⟩ := hpo
      refine s_st (st' := [.int (if ¬ (a_events d) &&& 8 = 0 then 1 else 0)]) rfl ?_
      refine s_ws (ws' := [(b 0, .inr (9, [.int (nI n), .ref (b 1), .ref (b 2), .int (nI p0), .ref (b 3), .ref (b 4), .ref (b 5), .ref (b 6), .ref (b 7), .ref (b 8), .int (I 10), .ref (b 9), .int (I 12), .int (I 13), .int (I 14), .int (I 15), .long W, .int (I 17), .int (I 18), .int (I 19), .int (I 20), .ref (b 10), .ref (b 11), .ref (b 12), .ref (b 13), .ref (b 14), .ref (b 15), .int (I 27), .int (I 28), .ref (b 16), .ref (b 17), .ref (b 18), .ref (b 19), .ref (b 20), .ref (b 21), .int (I 35), .int (I 36), .int (I 37), .ref (b 22), .int (I 39), .int (I 40), .int (I 41), .ref (b 23), .int (I 43), .ref (b 24)])), (b 3, .inl (g 0, 40, .inl a_events)), (b 6, .inl (g 0, 4, .inl a_laws))]) rfl ?_
      refine s_bif_ne (tgt := 61) B dX9_isAway_39 rfl (fun h39 => ?_) (fun h39 => ?_)
      · refine s_iconst B dX9_isAway_61 ic_0 ?_
        refine s_zret B hQ hr dX9_isAway_62 rfl rfl ?_
        exact ⟨by clear hQ B hr hsc; grind [mAway], rfl⟩
      · refine s_aload_n B dX9_isAway_42 rfl 0 rfl ?_
        refine s_iload_n B dX9_isAway_43 rfl 1 rfl ?_
        refine s_iload_n B dX9_isAway_44 rfl 2 rfl ?_
        refine s_iload B dX9_isAway_45 4 rfl ?_
        refine s_iload B dX9_isAway_47 5 rfl ?_
        refine s_iload B dX9_isAway_49 7 rfl ?_
        refine s_callVi B hsc (c_X9_staysAway l D g b I W n p0 a_events a_laws kd0 a0 d s0 w0 hd) (gw_V ml_X9_218 im_yX9_staysAway se_yX9_staysAway ini_RX9 co_yX9_staysAway) hd_X9_staysAway rfl rfl ⟨(Nat.le_of_ble_eq_true rfl), (Nat.le_of_ble_eq_true rfl)⟩ [0, 1, 2] [0, 1, 2, 3, 4] rfl rfl rfl (ci := 9) (q0 := 0) rfl rfl rfl rfl rfl (Nat.le_of_ble_eq_true rfl) dX9_isAway_51 (fun r u hpo => ?_)
        obtain ⟨rfl, rfl⟩ := hpo
        refine s_st (st' := [.int (if mStay kd0 a0 (nI d) (a_events d) s0 w0 (a_laws 1) = true then 1 else 0)]) rfl ?_
        refine s_ws (ws' := [(b 0, .inr (9, [.int (nI n), .ref (b 1), .ref (b 2), .int (nI p0), .ref (b 3), .ref (b 4), .ref (b 5), .ref (b 6), .ref (b 7), .ref (b 8), .int (I 10), .ref (b 9), .int (I 12), .int (I 13), .int (I 14), .int (I 15), .long W, .int (I 17), .int (I 18), .int (I 19), .int (I 20), .ref (b 10), .ref (b 11), .ref (b 12), .ref (b 13), .ref (b 14), .ref (b 15), .int (I 27), .int (I 28), .ref (b 16), .ref (b 17), .ref (b 18), .ref (b 19), .ref (b 20), .ref (b 21), .int (I 35), .int (I 36), .int (I 37), .ref (b 22), .int (I 39), .int (I 40), .int (I 41), .ref (b 23), .int (I 43), .ref (b 24)])), (b 3, .inl (g 0, 40, .inl a_events)), (b 6, .inl (g 0, 4, .inl a_laws))]) rfl ?_
        refine s_bif_eq (tgt := 61) B dX9_isAway_54 rfl (fun h54 => ?_) (fun h54 => ?_)
        · refine s_iconst B dX9_isAway_61 ic_0 ?_
          refine s_zret B hQ hr dX9_isAway_62 rfl rfl ?_
          exact ⟨by clear hQ B hr hsc; grind [mAway], rfl⟩
        · refine s_iconst B dX9_isAway_57 ic_1 ?_
          refine s_goto (tgt := 62) B dX9_isAway_58 rfl ?_
          refine s_zret B hQ hr dX9_isAway_62 rfl rfl ?_
          exact ⟨by clear hQ B hr hsc; grind [mAway], rfl⟩
  refine s_aload_n B dX9_isAway_0 rfl 0 rfl ?_
  refine s_get (T := TX9) B inX9 0 rfl rfl 4 (Nat.le_of_ble_eq_true rfl) fl_X9_16 rfl rfl dX9_isAway_1 ?_
  refine s_iload B dX9_isAway_4 4 rfl ?_
  refine s_ialdN B 1 0 rfl rfl dX9_isAway_6 (by omega) (by decide) ?_
  refine s_bipush B dX9_isAway_7 bp_16 ?_
  refine s_callSi B hsc (c_X9_has l D g (a_events d) 16) (gw_S ml_X9_215 sm_yX9_has ini_RX9 co_yX9_has) hd_X9_has rfl rfl ⟨(Nat.le_of_ble_eq_true rfl), (Nat.le_of_ble_eq_true rfl)⟩ [] [0, 1, 2, 3, 4] rfl rfl rfl rfl rfl (Nat.le_of_ble_eq_true rfl) dX9_isAway_9 (fun r u hpo => ?_)
  obtain ⟨rfl, rfl⟩ := hpo
  refine s_st (st' := [.int (if ¬ (a_events d) &&& 16 = 0 then 1 else 0)]) rfl ?_
  refine s_ws (ws' := [(b 0, .inr (9, [.int (nI n), .ref (b 1), .ref (b 2), .int (nI p0), .ref (b 3), .ref (b 4), .ref (b 5), .ref (b 6), .ref (b 7), .ref (b 8), .int (I 10), .ref (b 9), .int (I 12), .int (I 13), .int (I 14), .int (I 15), .long W, .int (I 17), .int (I 18), .int (I 19), .int (I 20), .ref (b 10), .ref (b 11), .ref (b 12), .ref (b 13), .ref (b 14), .ref (b 15), .int (I 27), .int (I 28), .ref (b 16), .ref (b 17), .ref (b 18), .ref (b 19), .ref (b 20), .ref (b 21), .int (I 35), .int (I 36), .int (I 37), .ref (b 22), .int (I 39), .int (I 40), .int (I 41), .ref (b 23), .int (I 43), .ref (b 24)])), (b 3, .inl (g 0, 40, .inl a_events)), (b 6, .inl (g 0, 4, .inl a_laws))]) rfl ?_
  refine s_bif_eq (tgt := 22) B dX9_isAway_12 rfl (fun h12 => ?_) (fun h12 => ?_)
  · refine s_lv (lv' := [(0, _), (1, _), (2, _), (3, _), (4, _), (5, _), (6, _), (7, _)]) [0, 1, 2, 3, 4, 5, 6, 7] rfl ?_
    exact M22 (by clear hQ B hr hsc; grind)
  · refine s_iload_n B dX9_isAway_15 rfl 3 rfl ?_
    refine s_iconst B dX9_isAway_16 ic_5 ?_
    refine s_icmp_le (tgt := 22) B dX9_isAway_17 rfl (fun h17 => ?_) (fun h17 => ?_)
    · refine s_lv (lv' := [(0, _), (1, _), (2, _), (3, _), (4, _), (5, _), (6, _), (7, _)]) [0, 1, 2, 3, 4, 5, 6, 7] rfl ?_
      exact M22 (by clear hQ B hr hsc; grind)
    · refine s_iconst B dX9_isAway_20 ic_1 ?_
      refine s_zret B hQ hr dX9_isAway_21 rfl rfl ?_
      exact ⟨by clear hQ B hr hsc; grind [mAway], rfl⟩
def rmX9_wouldBe : Room := { frames := 3, cells := 0, slots := 0, locals := 75 }
theorem hd_X9_wouldBe : yX9_wouldBe.cls = RX9 ∧ yX9_wouldBe.cls ≠ "java/lang/invoke/MethodHandle" ∧ yX9_wouldBe.cls ≠ "java/lang/invoke/VarHandle" ∧ (parseMethodDescriptor yX9_wouldBe.desc).map (fun d => d.parameters.length) = some 1 := by decide +kernel
set_option maxHeartbeats 4000000 in
set_option maxRecDepth 100000 in
theorem c_X9_wouldBe (l : Launch) (D : va_G) (g : Nat → ClassId) (b : Nat → Nat) (I : Nat → Int32) (W : Int64) (n p0 : Nat) (a_child : Nat → Int32) (a_row : Nat → Int32) (a_events : Nat → Int32) (a_laws : Nat → Int32) (k d : Nat) (hk : k < 8) (hp : p0 ≤ 25) (hd : d < 40) (hrow : a_row p0 = nI d) : Ci l yX9_wouldBe (WW yX9_wouldBe cX9_wouldBe 2 (some FieldType.boolean)) rmX9_wouldBe D vwCl (TY g) [.ref (b 0), .int (nI k)] [(b 0, .inr (9, [.int (nI n), .ref (b 1), .ref (b 2), .int (nI p0), .ref (b 3), .ref (b 4), .ref (b 5), .ref (b 6), .ref (b 7), .ref (b 8), .int (I 10), .ref (b 9), .int (I 12), .int (I 13), .int (I 14), .int (I 15), .long W, .int (I 17), .int (I 18), .int (I 19), .int (I 20), .ref (b 10), .ref (b 11), .ref (b 12), .ref (b 13), .ref (b 14), .ref (b 15), .int (I 27), .int (I 28), .ref (b 16), .ref (b 17), .ref (b 18), .ref (b 19), .ref (b 20), .ref (b 21), .int (I 35), .int (I 36), .int (I 37), .ref (b 22), .int (I 39), .int (I 40), .int (I 41), .ref (b 23), .int (I 43), .ref (b 24)])), (b 1, .inl (g 0, 32, .inl a_child)), (b 2, .inl (g 0, 50, .inl a_row)), (b 3, .inl (g 0, 40, .inl a_events)), (b 6, .inl (g 0, 4, .inl a_laws))] (fun r u => r = (if mAway (a_child (4 * k + 0)) (a_child (4 * k + 1)) (a_child (4 * k + 3)) (nI d) (a_events d) (decide (0 < a_row (p0 + 1 + k))) (decide (0 < a_row (p0 + 9 + k))) (a_row (p0 + 17 + k)) (a_laws 1) then 1 else 0) ∧ u = [(b 0, .inr (9, [.int (nI n), .ref (b 1), .ref (b 2), .int (nI p0), .ref (b 3), .ref (b 4), .ref (b 5), .ref (b 6), .ref (b 7), .ref (b 8), .int (I 10), .ref (b 9), .int (I 12), .int (I 13), .int (I 14), .int (I 15), .long W, .int (I 17), .int (I 18), .int (I 19), .int (I 20), .ref (b 10), .ref (b 11), .ref (b 12), .ref (b 13), .ref (b 14), .ref (b 15), .int (I 27), .int (I 28), .ref (b 16), .ref (b 17), .ref (b 18), .ref (b 19), .ref (b 20), .ref (b 21), .int (I 35), .int (I 36), .int (I 37), .ref (b 22), .int (I 39), .int (I 40), .int (I 41), .ref (b 23), .int (I 43), .ref (b 24)])), (b 1, .inl (g 0, 32, .inl a_child)), (b 2, .inl (g 0, 50, .inl a_row)), (b 3, .inl (g 0, 40, .inl a_events)), (b 6, .inl (g 0, 4, .inl a_laws))]) := by
  refine ci_in (by decide) (Nat.le_of_ble_eq_true rfl) (a0 := [b 0, b 1, b 2, b 3, b 6]) rfl (fun p e s m args below meth c A Q hQ B hr hsc => ?_)
  have M71 : Sx p l e rmX9_wouldBe s m args below meth c D vwCl A 2 Q 71 [(0, .ref (b 0)), (1, .int (nI k))] [.int (if ¬ (a_row ((p0 + 9) + k)) ≤ 0 then 1 else 0), .int (if ¬ (a_row ((p0 + 1) + k)) ≤ 0 then 1 else 0), .int (nI d), .int (a_child (4 * k + 3)), .int (a_child (4 * k + 1)), .int (a_child (4 * k + 0)), .ref (b 0)] [(b 0, .inr (9, [.int (nI n), .ref (b 1), .ref (b 2), .int (nI p0), .ref (b 3), .ref (b 4), .ref (b 5), .ref (b 6), .ref (b 7), .ref (b 8), .int (I 10), .ref (b 9), .int (I 12), .int (I 13), .int (I 14), .int (I 15), .long W, .int (I 17), .int (I 18), .int (I 19), .int (I 20), .ref (b 10), .ref (b 11), .ref (b 12), .ref (b 13), .ref (b 14), .ref (b 15), .int (I 27), .int (I 28), .ref (b 16), .ref (b 17), .ref (b 18), .ref (b 19), .ref (b 20), .ref (b 21), .int (I 35), .int (I 36), .int (I 37), .ref (b 22), .int (I 39), .int (I 40), .int (I 41), .ref (b 23), .int (I 43), .ref (b 24)])), (b 1, .inl (g 0, 32, .inl a_child)), (b 2, .inl (g 0, 50, .inl a_row)), (b 3, .inl (g 0, 40, .inl a_events)), (b 6, .inl (g 0, 4, .inl a_laws))] := by
    refine s_st (st' := [.int (if decide (0 < a_row (p0 + 9 + k)) = true then 1 else 0), .int (if decide (0 < a_row (p0 + 1 + k)) = true then 1 else 0), .int (nI d), .int (a_child (4 * k + 3)), .int (a_child (4 * k + 1)), .int (a_child (4 * k + 0)), .ref (b 0)]) (by simp only [decide_eq_true_eq, Int32.not_le]) ?_
    refine s_aload_n B dX9_wouldBe_71 rfl 0 rfl ?_
    refine s_get (T := TX9) B inX9 0 rfl rfl 2 (Nat.le_of_ble_eq_true rfl) fl_X9_13 rfl rfl dX9_wouldBe_72 ?_
    refine s_aload_n B dX9_wouldBe_75 rfl 0 rfl ?_
    refine s_get (T := TX9) B inX9 0 rfl rfl 3 (Nat.le_of_ble_eq_true rfl) fl_X9_222 rfl rfl dX9_wouldBe_76 ?_
    refine s_bipush B dX9_wouldBe_79 bp_17 ?_
    refine s_iaddE B dX9_wouldBe_81 (nI_add p0 17) ?_
    refine s_iload_n B dX9_wouldBe_82 rfl 1 rfl ?_
    refine s_iaddE B dX9_wouldBe_83 (nI_add (p0 + 17) k) ?_
    refine s_ialdN B 2 0 rfl rfl dX9_wouldBe_84 (by omega) (by decide) ?_
    refine s_callVi B hsc (c_X9_isAway l D g b I W n p0 a_events a_laws (a_child (4 * k + 0)) (a_child (4 * k + 1)) (a_child (4 * k + 3)) d (decide (0 < a_row (p0 + 1 + k))) (decide (0 < a_row (p0 + 9 + k))) (a_row ((p0 + 17) + k)) hd) (gw_V ml_X9_225 im_yX9_isAway se_yX9_isAway ini_RX9 co_yX9_isAway) hd_X9_isAway rfl rfl ⟨(Nat.le_of_ble_eq_true rfl), (Nat.le_of_ble_eq_true rfl)⟩ [0, 3, 4] [0, 1, 2, 3, 4] rfl rfl rfl (ci := 9) (q0 := 0) rfl rfl rfl rfl rfl (Nat.le_of_ble_eq_true rfl) dX9_wouldBe_85 (fun r u hpo => ?_)
    obtain ⟨rfl, rfl⟩ := hpo
    refine s_st (st' := [.int (if mAway (a_child (4 * k + 0)) (a_child (4 * k + 1)) (a_child (4 * k + 3)) (nI d) (a_events d) (decide (0 < a_row (p0 + 1 + k))) (decide (0 < a_row (p0 + 9 + k))) (a_row (p0 + 17 + k)) (a_laws 1) = true then 1 else 0)]) rfl ?_
    refine s_ws (ws' := [(b 0, .inr (9, [.int (nI n), .ref (b 1), .ref (b 2), .int (nI p0), .ref (b 3), .ref (b 4), .ref (b 5), .ref (b 6), .ref (b 7), .ref (b 8), .int (I 10), .ref (b 9), .int (I 12), .int (I 13), .int (I 14), .int (I 15), .long W, .int (I 17), .int (I 18), .int (I 19), .int (I 20), .ref (b 10), .ref (b 11), .ref (b 12), .ref (b 13), .ref (b 14), .ref (b 15), .int (I 27), .int (I 28), .ref (b 16), .ref (b 17), .ref (b 18), .ref (b 19), .ref (b 20), .ref (b 21), .int (I 35), .int (I 36), .int (I 37), .ref (b 22), .int (I 39), .int (I 40), .int (I 41), .ref (b 23), .int (I 43), .ref (b 24)])), (b 1, .inl (g 0, 32, .inl a_child)), (b 2, .inl (g 0, 50, .inl a_row)), (b 3, .inl (g 0, 40, .inl a_events)), (b 6, .inl (g 0, 4, .inl a_laws))]) rfl ?_
    refine s_zret B hQ hr dX9_wouldBe_88 rfl (z_if _) ?_
    exact ⟨rfl, rfl⟩
  have M49 : Sx p l e rmX9_wouldBe s m args below meth c D vwCl A 2 Q 49 [(0, .ref (b 0)), (1, .int (nI k))] [.int (if ¬ (a_row ((p0 + 1) + k)) ≤ 0 then 1 else 0), .int (nI d), .int (a_child (4 * k + 3)), .int (a_child (4 * k + 1)), .int (a_child (4 * k + 0)), .ref (b 0)] [(b 0, .inr (9, [.int (nI n), .ref (b 1), .ref (b 2), .int (nI p0), .ref (b 3), .ref (b 4), .ref (b 5), .ref (b 6), .ref (b 7), .ref (b 8), .int (I 10), .ref (b 9), .int (I 12), .int (I 13), .int (I 14), .int (I 15), .long W, .int (I 17), .int (I 18), .int (I 19), .int (I 20), .ref (b 10), .ref (b 11), .ref (b 12), .ref (b 13), .ref (b 14), .ref (b 15), .int (I 27), .int (I 28), .ref (b 16), .ref (b 17), .ref (b 18), .ref (b 19), .ref (b 20), .ref (b 21), .int (I 35), .int (I 36), .int (I 37), .ref (b 22), .int (I 39), .int (I 40), .int (I 41), .ref (b 23), .int (I 43), .ref (b 24)])), (b 1, .inl (g 0, 32, .inl a_child)), (b 2, .inl (g 0, 50, .inl a_row)), (b 3, .inl (g 0, 40, .inl a_events)), (b 6, .inl (g 0, 4, .inl a_laws))] := by
    refine s_aload_n B dX9_wouldBe_49 rfl 0 rfl ?_
    refine s_get (T := TX9) B inX9 0 rfl rfl 2 (Nat.le_of_ble_eq_true rfl) fl_X9_13 rfl rfl dX9_wouldBe_50 ?_
    refine s_aload_n B dX9_wouldBe_53 rfl 0 rfl ?_
    refine s_get (T := TX9) B inX9 0 rfl rfl 3 (Nat.le_of_ble_eq_true rfl) fl_X9_222 rfl rfl dX9_wouldBe_54 ?_
    refine s_bipush B dX9_wouldBe_57 bp_9 ?_
    refine s_iaddE B dX9_wouldBe_59 (nI_add p0 9) ?_
    refine s_iload_n B dX9_wouldBe_60 rfl 1 rfl ?_
    refine s_iaddE B dX9_wouldBe_61 (nI_add (p0 + 9) k) ?_
    refine s_ialdN B 2 0 rfl rfl dX9_wouldBe_62 (by omega) (by decide) ?_
    refine s_if_le (tgt := 70) B dX9_wouldBe_63 rfl (fun h63 => ?_) (fun h63 => ?_)
    · refine s_iconst B dX9_wouldBe_70 ic_0 ?_
      refine s_lv (lv' := [(0, _), (1, _)]) [0, 1] rfl ?_
      refine s_st (st' := [.int (if ¬ (a_row ((p0 + 9) + k)) ≤ 0 then 1 else 0), .int (if ¬ (a_row ((p0 + 1) + k)) ≤ 0 then 1 else 0), .int (nI d), .int (a_child (4 * k + 3)), .int (a_child (4 * k + 1)), .int (a_child (4 * k + 0)), .ref (b 0)]) (by first | (simp only [if_pos h63]; done) | (clear hQ B hr hsc; grind)) ?_
      exact M71 
    · refine s_iconst B dX9_wouldBe_66 ic_1 ?_
      refine s_goto (tgt := 71) B dX9_wouldBe_67 rfl ?_
      refine s_lv (lv' := [(0, _), (1, _)]) [0, 1] rfl ?_
      refine s_st (st' := [.int (if ¬ (a_row ((p0 + 9) + k)) ≤ 0 then 1 else 0), .int (if ¬ (a_row ((p0 + 1) + k)) ≤ 0 then 1 else 0), .int (nI d), .int (a_child (4 * k + 3)), .int (a_child (4 * k + 1)), .int (a_child (4 * k + 0)), .ref (b 0)]) (by first | (simp only [if_pos h63, if_neg h63]; done) | (clear hQ B hr hsc; grind)) ?_
      exact M71 
  refine s_aload_n B dX9_wouldBe_0 rfl 0 rfl ?_
  refine s_aload_n B dX9_wouldBe_1 rfl 0 rfl ?_
  refine s_iload_n B dX9_wouldBe_2 rfl 1 rfl ?_
  refine s_iconst B dX9_wouldBe_3 ic_0 ?_
  refine s_callVi B hsc (c_X9_its l D g b I W n p0 a_child k 0 (by omega) (by decide)) (gw_V ml_X9_209 im_yX9_its se_yX9_its ini_RX9 co_yX9_its) hd_X9_its rfl rfl ⟨(Nat.le_of_ble_eq_true rfl), (Nat.le_of_ble_eq_true rfl)⟩ [0, 1] [0, 1, 2, 3, 4] rfl rfl rfl (ci := 9) (q0 := 0) rfl rfl rfl rfl rfl (Nat.le_of_ble_eq_true rfl) dX9_wouldBe_4 (fun r u hpo => ?_)
  obtain ⟨rfl, rfl⟩ := hpo
  refine s_st (st' := [.int (a_child (4 * k + 0)), .ref (b 0)]) rfl ?_
  refine s_ws (ws' := [(b 0, .inr (9, [.int (nI n), .ref (b 1), .ref (b 2), .int (nI p0), .ref (b 3), .ref (b 4), .ref (b 5), .ref (b 6), .ref (b 7), .ref (b 8), .int (I 10), .ref (b 9), .int (I 12), .int (I 13), .int (I 14), .int (I 15), .long W, .int (I 17), .int (I 18), .int (I 19), .int (I 20), .ref (b 10), .ref (b 11), .ref (b 12), .ref (b 13), .ref (b 14), .ref (b 15), .int (I 27), .int (I 28), .ref (b 16), .ref (b 17), .ref (b 18), .ref (b 19), .ref (b 20), .ref (b 21), .int (I 35), .int (I 36), .int (I 37), .ref (b 22), .int (I 39), .int (I 40), .int (I 41), .ref (b 23), .int (I 43), .ref (b 24)])), (b 1, .inl (g 0, 32, .inl a_child)), (b 2, .inl (g 0, 50, .inl a_row)), (b 3, .inl (g 0, 40, .inl a_events)), (b 6, .inl (g 0, 4, .inl a_laws))]) rfl ?_
  refine s_aload_n B dX9_wouldBe_7 rfl 0 rfl ?_
  refine s_iload_n B dX9_wouldBe_8 rfl 1 rfl ?_
  refine s_iconst B dX9_wouldBe_9 ic_1 ?_
  refine s_callVi B hsc (c_X9_its l D g b I W n p0 a_child k 1 (by omega) (by decide)) (gw_V ml_X9_209 im_yX9_its se_yX9_its ini_RX9 co_yX9_its) hd_X9_its rfl rfl ⟨(Nat.le_of_ble_eq_true rfl), (Nat.le_of_ble_eq_true rfl)⟩ [0, 1] [0, 1, 2, 3, 4] rfl rfl rfl (ci := 9) (q0 := 0) rfl rfl rfl rfl rfl (Nat.le_of_ble_eq_true rfl) dX9_wouldBe_10 (fun r u hpo => ?_)
  obtain ⟨rfl, rfl⟩ := hpo
  refine s_st (st' := [.int (a_child (4 * k + 1)), .int (a_child (4 * k + 0)), .ref (b 0)]) rfl ?_
  refine s_ws (ws' := [(b 0, .inr (9, [.int (nI n), .ref (b 1), .ref (b 2), .int (nI p0), .ref (b 3), .ref (b 4), .ref (b 5), .ref (b 6), .ref (b 7), .ref (b 8), .int (I 10), .ref (b 9), .int (I 12), .int (I 13), .int (I 14), .int (I 15), .long W, .int (I 17), .int (I 18), .int (I 19), .int (I 20), .ref (b 10), .ref (b 11), .ref (b 12), .ref (b 13), .ref (b 14), .ref (b 15), .int (I 27), .int (I 28), .ref (b 16), .ref (b 17), .ref (b 18), .ref (b 19), .ref (b 20), .ref (b 21), .int (I 35), .int (I 36), .int (I 37), .ref (b 22), .int (I 39), .int (I 40), .int (I 41), .ref (b 23), .int (I 43), .ref (b 24)])), (b 1, .inl (g 0, 32, .inl a_child)), (b 2, .inl (g 0, 50, .inl a_row)), (b 3, .inl (g 0, 40, .inl a_events)), (b 6, .inl (g 0, 4, .inl a_laws))]) rfl ?_
  refine s_aload_n B dX9_wouldBe_13 rfl 0 rfl ?_
  refine s_iload_n B dX9_wouldBe_14 rfl 1 rfl ?_
  refine s_iconst B dX9_wouldBe_15 ic_3 ?_
  refine s_callVi B hsc (c_X9_its l D g b I W n p0 a_child k 3 (by omega) (by decide)) (gw_V ml_X9_209 im_yX9_its se_yX9_its ini_RX9 co_yX9_its) hd_X9_its rfl rfl ⟨(Nat.le_of_ble_eq_true rfl), (Nat.le_of_ble_eq_true rfl)⟩ [0, 1] [0, 1, 2, 3, 4] rfl rfl rfl (ci := 9) (q0 := 0) rfl rfl rfl rfl rfl (Nat.le_of_ble_eq_true rfl) dX9_wouldBe_16 (fun r u hpo => ?_)
  obtain ⟨rfl, rfl⟩ := hpo
  refine s_st (st' := [.int (a_child (4 * k + 3)), .int (a_child (4 * k + 1)), .int (a_child (4 * k + 0)), .ref (b 0)]) rfl ?_
  refine s_ws (ws' := [(b 0, .inr (9, [.int (nI n), .ref (b 1), .ref (b 2), .int (nI p0), .ref (b 3), .ref (b 4), .ref (b 5), .ref (b 6), .ref (b 7), .ref (b 8), .int (I 10), .ref (b 9), .int (I 12), .int (I 13), .int (I 14), .int (I 15), .long W, .int (I 17), .int (I 18), .int (I 19), .int (I 20), .ref (b 10), .ref (b 11), .ref (b 12), .ref (b 13), .ref (b 14), .ref (b 15), .int (I 27), .int (I 28), .ref (b 16), .ref (b 17), .ref (b 18), .ref (b 19), .ref (b 20), .ref (b 21), .int (I 35), .int (I 36), .int (I 37), .ref (b 22), .int (I 39), .int (I 40), .int (I 41), .ref (b 23), .int (I 43), .ref (b 24)])), (b 1, .inl (g 0, 32, .inl a_child)), (b 2, .inl (g 0, 50, .inl a_row)), (b 3, .inl (g 0, 40, .inl a_events)), (b 6, .inl (g 0, 4, .inl a_laws))]) rfl ?_
  refine s_aload_n B dX9_wouldBe_19 rfl 0 rfl ?_
  refine s_get (T := TX9) B inX9 0 rfl rfl 2 (Nat.le_of_ble_eq_true rfl) fl_X9_13 rfl rfl dX9_wouldBe_20 ?_
  refine s_aload_n B dX9_wouldBe_23 rfl 0 rfl ?_
  refine s_get (T := TX9) B inX9 0 rfl rfl 3 (Nat.le_of_ble_eq_true rfl) fl_X9_222 rfl rfl dX9_wouldBe_24 ?_
  refine s_ialdN B 2 0 rfl rfl dX9_wouldBe_27 (by omega) (by decide) ?_
  refine s_st (st' := [.int (nI d), .int (a_child (4 * k + 3)), .int (a_child (4 * k + 1)), .int (a_child (4 * k + 0)), .ref (b 0)]) (by rw [hrow]) ?_
  refine s_aload_n B dX9_wouldBe_28 rfl 0 rfl ?_
  refine s_get (T := TX9) B inX9 0 rfl rfl 2 (Nat.le_of_ble_eq_true rfl) fl_X9_13 rfl rfl dX9_wouldBe_29 ?_
  refine s_aload_n B dX9_wouldBe_32 rfl 0 rfl ?_
  refine s_get (T := TX9) B inX9 0 rfl rfl 3 (Nat.le_of_ble_eq_true rfl) fl_X9_222 rfl rfl dX9_wouldBe_33 ?_
  refine s_iconst B dX9_wouldBe_36 ic_1 ?_
  refine s_iaddE B dX9_wouldBe_37 (nI_add p0 1) ?_
  refine s_iload_n B dX9_wouldBe_38 rfl 1 rfl ?_
  refine s_iaddE B dX9_wouldBe_39 (nI_add (p0 + 1) k) ?_
  refine s_ialdN B 2 0 rfl rfl dX9_wouldBe_40 (by omega) (by decide) ?_
  refine s_if_le (tgt := 48) B dX9_wouldBe_41 rfl (fun h41 => ?_) (fun h41 => ?_)
  · refine s_iconst B dX9_wouldBe_48 ic_0 ?_
    refine s_lv (lv' := [(0, _), (1, _)]) [0, 1] rfl ?_
    refine s_st (st' := [.int (if ¬ (a_row ((p0 + 1) + k)) ≤ 0 then 1 else 0), .int (nI d), .int (a_child (4 * k + 3)), .int (a_child (4 * k + 1)), .int (a_child (4 * k + 0)), .ref (b 0)]) (by first | (simp only [if_pos h41]; done) | (clear hQ B hr hsc; grind)) ?_
    exact M49 
  · refine s_iconst B dX9_wouldBe_44 ic_1 ?_
    refine s_goto (tgt := 49) B dX9_wouldBe_45 rfl ?_
    refine s_lv (lv' := [(0, _), (1, _)]) [0, 1] rfl ?_
    refine s_st (st' := [.int (if ¬ (a_row ((p0 + 1) + k)) ≤ 0 then 1 else 0), .int (nI d), .int (a_child (4 * k + 3)), .int (a_child (4 * k + 1)), .int (a_child (4 * k + 0)), .ref (b 0)]) (by first | (simp only [if_pos h41, if_neg h41]; done) | (clear hQ B hr hsc; grind)) ?_
    exact M49 
def rmX9_sickSet : Room := { frames := 0, cells := 0, slots := 0, locals := 0 }
theorem hd_X9_sickSet : yX9_sickSet.cls = RX9 ∧ yX9_sickSet.cls ≠ "java/lang/invoke/MethodHandle" ∧ yX9_sickSet.cls ≠ "java/lang/invoke/VarHandle" ∧ (parseMethodDescriptor yX9_sickSet.desc).map (fun d => d.parameters.length) = some 0 := by decide +kernel
set_option maxHeartbeats 4000000 in
set_option maxRecDepth 100000 in
theorem c_X9_sickSet (l : Launch) (D : va_G) (g : Nat → ClassId) (b : Nat → Nat) (I : Nat → Int32) (W : Int64) (n p0 : Nat) (a_row : Nat → Int32)  (hn : n ≤ 8) (hp : p0 ≤ 25) : Ci l yX9_sickSet (WW yX9_sickSet cX9_sickSet 3 (some FieldType.int)) rmX9_sickSet D vwCl (TY g) [.ref (b 0)] [(b 0, .inr (9, [.int (nI n), .ref (b 1), .ref (b 2), .int (nI p0), .ref (b 3), .ref (b 4), .ref (b 5), .ref (b 6), .ref (b 7), .ref (b 8), .int (I 10), .ref (b 9), .int (I 12), .int (I 13), .int (I 14), .int (I 15), .long W, .int (I 17), .int (I 18), .int (I 19), .int (I 20), .ref (b 10), .ref (b 11), .ref (b 12), .ref (b 13), .ref (b 14), .ref (b 15), .int (I 27), .int (I 28), .ref (b 16), .ref (b 17), .ref (b 18), .ref (b 19), .ref (b 20), .ref (b 21), .int (I 35), .int (I 36), .int (I 37), .ref (b 22), .int (I 39), .int (I 40), .int (I 41), .ref (b 23), .int (I 43), .ref (b 24)])), (b 2, .inl (g 0, 50, .inl a_row))] (fun r u => r = mSick (fun c => a_row (p0 + 1 + c)) n ∧ u = [(b 0, .inr (9, [.int (nI n), .ref (b 1), .ref (b 2), .int (nI p0), .ref (b 3), .ref (b 4), .ref (b 5), .ref (b 6), .ref (b 7), .ref (b 8), .int (I 10), .ref (b 9), .int (I 12), .int (I 13), .int (I 14), .int (I 15), .long W, .int (I 17), .int (I 18), .int (I 19), .int (I 20), .ref (b 10), .ref (b 11), .ref (b 12), .ref (b 13), .ref (b 14), .ref (b 15), .int (I 27), .int (I 28), .ref (b 16), .ref (b 17), .ref (b 18), .ref (b 19), .ref (b 20), .ref (b 21), .int (I 35), .int (I 36), .int (I 37), .ref (b 22), .int (I 39), .int (I 40), .int (I 41), .ref (b 23), .int (I 43), .ref (b 24)])), (b 2, .inl (g 0, 50, .inl a_row))]) := by
  refine ci_in (by decide) (Nat.le_of_ble_eq_true rfl) (a0 := [b 0, b 2]) rfl (fun p e s m args below meth c A Q hQ B hr hsc => ?_)
  have L4 : ∀ (jj : Nat) (k : Nat), n - k < jj → (k ≤ n) → Sx p l e rmX9_sickSet s m args below meth c D vwCl A 3 Q 4 [(0, .ref (b 0)), (1, .int (mSick (fun c => a_row (p0 + 1 + c)) k)), (2, .int (nI k))] [] [(b 0, .inr (9, [.int (nI n), .ref (b 1), .ref (b 2), .int (nI p0), .ref (b 3), .ref (b 4), .ref (b 5), .ref (b 6), .ref (b 7), .ref (b 8), .int (I 10), .ref (b 9), .int (I 12), .int (I 13), .int (I 14), .int (I 15), .long W, .int (I 17), .int (I 18), .int (I 19), .int (I 20), .ref (b 10), .ref (b 11), .ref (b 12), .ref (b 13), .ref (b 14), .ref (b 15), .int (I 27), .int (I 28), .ref (b 16), .ref (b 17), .ref (b 18), .ref (b 19), .ref (b 20), .ref (b 21), .int (I 35), .int (I 36), .int (I 37), .ref (b 22), .int (I 39), .int (I 40), .int (I 41), .ref (b 23), .int (I 43), .ref (b 24)])), (b 2, .inl (g 0, 50, .inl a_row))] := by
    intro jj
    induction jj with
    | zero => intro k hj; exact absurd hj (Nat.not_lt_zero _)
    | succ jj ih =>
      intro k hj hk
      have M36 : (¬ n ≤ k) → Sx p l e rmX9_sickSet s m args below meth c D vwCl A 3 Q 36 [(0, .ref (b 0)), (1, .int (mSick (fun c => a_row (p0 + 1 + c)) k)), (2, .int (nI k))] [.int (if (a_row ((p0 + 1) + k)) ≤ 0 then 0 else (1 <<< ((nI k) &&& 31))), .int (mSick (fun c => a_row (p0 + 1 + c)) k)] [(b 0, .inr (9, [.int (nI n), .ref (b 1), .ref (b 2), .int (nI p0), .ref (b 3), .ref (b 4), .ref (b 5), .ref (b 6), .ref (b 7), .ref (b 8), .int (I 10), .ref (b 9), .int (I 12), .int (I 13), .int (I 14), .int (I 15), .long W, .int (I 17), .int (I 18), .int (I 19), .int (I 20), .ref (b 10), .ref (b 11), .ref (b 12), .ref (b 13), .ref (b 14), .ref (b 15), .int (I 27), .int (I 28), .ref (b 16), .ref (b 17), .ref (b 18), .ref (b 19), .ref (b 20), .ref (b 21), .int (I 35), .int (I 36), .int (I 37), .ref (b 22), .int (I 39), .int (I 40), .int (I 41), .ref (b 23), .int (I 43), .ref (b 24)])), (b 2, .inl (g 0, 50, .inl a_row))] := by
        intro hm36_0
        refine s_ior B dX9_sickSet_36 ?_
        refine s_istore_n (lv' := [(1, _), (0, _), (2, _)]) B dX9_sickSet_37 rfl (Nat.le_of_ble_eq_true rfl) rfl ?_
        refine s_iinc (lv' := [(2, _), (1, _), (0, _)]) (k := 2) B dX9_sickSet_38 rfl (ii_n _) (Nat.le_of_ble_eq_true rfl) rfl ?_
        refine s_goto (tgt := 4) B dX9_sickSet_41 rfl ?_
        refine s_lv (lv' := [(0, _), (1, _), (2, _)]) [2, 1, 0] rfl ?_
        refine s_lve (lv' := [(0, .ref (b 0)), (1, .int (mSick (fun c => a_row (p0 + 1 + c)) (k + 1))), (2, .int (nI (k + 1)))]) (by clear hQ B hr hsc; have e0 : ∀ x : Int32, x ||| 0 = x := (fun x => Int32.or_zero); grind [mSick, mBits]) ?_
        exact ih (k + 1) (by omega) (by omega)
      refine s_iload_n B dX9_sickSet_4 rfl 2 rfl ?_
      refine s_aload_n B dX9_sickSet_5 rfl 0 rfl ?_
      refine s_get (T := TX9) B inX9 0 rfl rfl 0 (Nat.le_of_ble_eq_true rfl) fl_X9_91 rfl rfl dX9_sickSet_6 ?_
      refine s_icmp_ge (tgt := 44) B dX9_sickSet_9 rfl (fun h9 => ?_) (fun h9 => ?_)
      · replace h9 : n ≤ k := (nI_leI (a := n) (b := k) (by omega) (by omega)).mp h9
        refine s_iload_n B dX9_sickSet_44 rfl 1 rfl ?_
        refine s_iret B hQ hr dX9_sickSet_45 rfl ?_
        have e9 : k = n := by omega
        subst e9
        exact ⟨rfl, rfl⟩
      · replace h9 : ¬ n ≤ k := fun hh => h9 ((nI_leI (a := n) (b := k) (by omega) (by omega)).mpr hh)
        refine s_iload_n B dX9_sickSet_12 rfl 1 rfl ?_
        refine s_aload_n B dX9_sickSet_13 rfl 0 rfl ?_
        refine s_get (T := TX9) B inX9 0 rfl rfl 2 (Nat.le_of_ble_eq_true rfl) fl_X9_13 rfl rfl dX9_sickSet_14 ?_
        refine s_aload_n B dX9_sickSet_17 rfl 0 rfl ?_
        refine s_get (T := TX9) B inX9 0 rfl rfl 3 (Nat.le_of_ble_eq_true rfl) fl_X9_222 rfl rfl dX9_sickSet_18 ?_
        refine s_iconst B dX9_sickSet_21 ic_1 ?_
        refine s_iaddE B dX9_sickSet_22 (nI_add p0 1) ?_
        refine s_iload_n B dX9_sickSet_23 rfl 2 rfl ?_
        refine s_iaddE B dX9_sickSet_24 (nI_add (p0 + 1) k) ?_
        refine s_ialdN B 1 0 rfl rfl dX9_sickSet_25 (by omega) (by decide) ?_
        refine s_if_le (tgt := 35) B dX9_sickSet_26 rfl (fun h26 => ?_) (fun h26 => ?_)
        · refine s_iconst B dX9_sickSet_35 ic_0 ?_
          refine s_lv (lv' := [(0, _), (1, _), (2, _)]) [0, 1, 2] rfl ?_
          refine s_st (st' := [.int (if (a_row ((p0 + 1) + k)) ≤ 0 then 0 else (1 <<< ((nI k) &&& 31))), .int (mSick (fun c => a_row (p0 + 1 + c)) k)]) (by first | (simp only [if_pos h9, if_neg h9, if_pos h26]; done) | (clear hQ B hr hsc; grind)) ?_
          exact M36 h9
        · refine s_iconst B dX9_sickSet_29 ic_1 ?_
          refine s_iload_n B dX9_sickSet_30 rfl 2 rfl ?_
          refine s_ishl B dX9_sickSet_31 ?_
          refine s_goto (tgt := 36) B dX9_sickSet_32 rfl ?_
          refine s_lv (lv' := [(0, _), (1, _), (2, _)]) [0, 1, 2] rfl ?_
          refine s_st (st' := [.int (if (a_row ((p0 + 1) + k)) ≤ 0 then 0 else (1 <<< ((nI k) &&& 31))), .int (mSick (fun c => a_row (p0 + 1 + c)) k)]) (by first | (simp only [if_pos h9, if_neg h9, if_pos h26, if_neg h26]; done) | (clear hQ B hr hsc; grind)) ?_
          exact M36 h9
  refine s_iconst B dX9_sickSet_0 ic_0 ?_
  refine s_istore_n (lv' := [(1, _), (0, _)]) B dX9_sickSet_1 rfl (Nat.le_of_ble_eq_true rfl) rfl ?_
  refine s_iconst B dX9_sickSet_2 ic_0 ?_
  refine s_istore_n (lv' := [(2, _), (1, _), (0, _)]) B dX9_sickSet_3 rfl (Nat.le_of_ble_eq_true rfl) rfl ?_
  refine s_lv (lv' := [(0, _), (1, _), (2, _)]) [2, 1, 0] rfl ?_
  refine s_lve (lv' := [(0, .ref (b 0)), (1, .int (mSick (fun c => a_row (p0 + 1 + c)) 0)), (2, .int (nI 0))]) (by rfl) ?_
  exact L4 (n + 1) 0 (by omega) (by omega)
