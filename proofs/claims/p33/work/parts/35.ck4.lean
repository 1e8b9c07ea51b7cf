theorem place_nat {rn : Nat} {i w : Int32} (hr : rn ≤ 20) (h : ¬ mPlace rn i w < 0) : ∃ k, k < 60 ∧ mPlace rn i w = nI k := by
  by_cases hc : ¬ i < 0 ∧ ¬ nI rn ≤ i ∧ ¬ w < 0 ∧ ¬ 3 ≤ w
  · obtain ⟨k, hk, rfl⟩ := nat_lt2 (N := rn) hc.1 (Int32.not_le.mp hc.2.1) (by omega)
    obtain ⟨v, hv, rfl⟩ := nat_lt2 (N := 3) hc.2.2.1 (Int32.not_le.mp hc.2.2.2) (by decide)
    exact ⟨k * 3 + v, by omega, mPlace_n hk hr hv⟩
  · exfalso
    unfold mPlace at h
    rw [if_neg hc] at h
    exact h (by decide)
def rmX8_today : Room := { frames := 0, cells := 0, slots := 0, locals := 0 }
theorem hd_X8_today : yX8_today.cls = RX8 ∧ yX8_today.cls ≠ "java/lang/invoke/MethodHandle" ∧ yX8_today.cls ≠ "java/lang/invoke/VarHandle" ∧ (parseMethodDescriptor yX8_today.desc).map (fun d => d.parameters.length) = some 0 := by decide +kernel
set_option maxHeartbeats 4000000 in
set_option maxRecDepth 100000 in
theorem c_X8_today (l : Launch) (D : va_G) (g : Nat → ClassId) (bo : Nat) (an : Nat → Nat) (ak : Nat → Nat) (bT : Nat) (hT : Nat) (ar : Nat → Nat) (bS : Nat) (bV : Nat) (th : Nat → Nat) (ik : Int32) (n : Nat) (td : Nat) (z : Int32) (kd : Nat → Int32) (ka : Nat → Int32) (ho : Nat → Int32) (fa : Nat → Int32) (si : Nat → Int32) (kn : Nat → Int32) (aw : Nat → Int32) (ev : Nat → Int32) (cr : Nat → Int32) (tr : Nat → Int32) (lw : Nat → Int32) (q : Nat → Int32)  (hb_n : n ≤ 8) (hb_td : td ≤ 40) : Ci l yX8_today (WW yX8_today cX8_today 1 (some FieldType.int)) rmX8_today D vwCl (TY g) [.ref bo] [(bo, .inr (8, [.ref (an 0), .ref (ak 0), .int ik, .ref (bT), .ref (hT), .ref (ar 0), .ref (bS), .ref (bV), .ref (th 0)])), (an 0, .inr (2, [.ref (an 1), .ref (an 2), .ref (an 3), .ref (an 4), .ref (an 5), .ref (an 6), .ref (an 7), .int (nI n), .ref (an 8), .ref (an 9), .ref (an 10), .ref (an 11), .int (nI td), .int z, .ref (an 12)])), (an 1, .inl (g 0, 8, .inl kd)), (an 2, .inl (g 0, 8, .inl ka)), (an 3, .inl (g 0, 8, .inl ho)), (an 4, .inl (g 0, 8, .inl fa)), (an 5, .inl (g 0, 8, .inl si)), (an 6, .inl (g 0, 8, .inl kn)), (an 7, .inl (g 0, 8, .inl aw)), (an 8, .inl (g 0, 40, .inl ev)), (an 9, .inl (g 0, 40, .inl cr)), (an 10, .inl (g 0, 40, .inl tr)), (an 11, .inl (g 0, 4, .inl lw)), (an 12, .inr (0, [.int (q 0), .int (q 1), .int (q 2), .int (q 3), .int (q 4), .int (q 5), .int (q 6), .int (q 7), .int (q 8)]))] (fun r u => (r = nI td) ∧ u = [(bo, .inr (8, [.ref (an 0), .ref (ak 0), .int ik, .ref (bT), .ref (hT), .ref (ar 0), .ref (bS), .ref (bV), .ref (th 0)])), (an 0, .inr (2, [.ref (an 1), .ref (an 2), .ref (an 3), .ref (an 4), .ref (an 5), .ref (an 6), .ref (an 7), .int (nI n), .ref (an 8), .ref (an 9), .ref (an 10), .ref (an 11), .int (nI td), .int z, .ref (an 12)])), (an 1, .inl (g 0, 8, .inl kd)), (an 2, .inl (g 0, 8, .inl ka)), (an 3, .inl (g 0, 8, .inl ho)), (an 4, .inl (g 0, 8, .inl fa)), (an 5, .inl (g 0, 8, .inl si)), (an 6, .inl (g 0, 8, .inl kn)), (an 7, .inl (g 0, 8, .inl aw)), (an 8, .inl (g 0, 40, .inl ev)), (an 9, .inl (g 0, 40, .inl cr)), (an 10, .inl (g 0, 40, .inl tr)), (an 11, .inl (g 0, 4, .inl lw)), (an 12, .inr (0, [.int (q 0), .int (q 1), .int (q 2), .int (q 3), .int (q 4), .int (q 5), .int (q 6), .int (q 7), .int (q 8)]))]) := by
  refine ci_in (by decide) (Nat.le_of_ble_eq_true rfl) (a0 := [bo, an 0, an 1, an 2, an 3, an 4, an 5, an 6, an 7, an 8, an 9, an 10, an 11, an 12]) rfl (fun p e s m args below meth c A Q hQ B hr hsc => ?_)
  refine s_aload_n B dX8_today_0 rfl 0 rfl ?_
  refine s_get (T := TX8) B inX8 0 rfl rfl 0 (Nat.le_of_ble_eq_true rfl) fl_X8_10 rfl rfl dX8_today_1 ?_
  refine s_get (T := TX2) B inX2 1 rfl rfl 12 (Nat.le_of_ble_eq_true rfl) fl_X8_140 rfl rfl dX8_today_4 ?_
  refine s_iret B hQ hr dX8_today_7 rfl ?_
  exact ⟨rfl, rfl⟩
def rmX8_childOf : Room := { frames := 1, cells := 0, slots := 0, locals := 22 }
theorem hd_X8_childOf : yX8_childOf.cls = RX8 ∧ yX8_childOf.cls ≠ "java/lang/invoke/MethodHandle" ∧ yX8_childOf.cls ≠ "java/lang/invoke/VarHandle" ∧ (parseMethodDescriptor yX8_childOf.desc).map (fun d => d.parameters.length) = some 2 := by decide +kernel
set_option maxHeartbeats 4000000 in
set_option maxRecDepth 100000 in
theorem c_X8_childOf (l : Launch) (D : va_G) (g : Nat → ClassId) (bo : Nat) (an : Nat → Nat) (ak : Nat → Nat) (bT : Nat) (hT : Nat) (ar : Nat → Nat) (bS : Nat) (bV : Nat) (th : Nat → Nat) (ik : Int32) (n : Nat) (td : Nat) (z : Int32) (kd : Nat → Int32) (ka : Nat → Int32) (ho : Nat → Int32) (fa : Nat → Int32) (si : Nat → Int32) (kn : Nat → Int32) (aw : Nat → Int32) (ev : Nat → Int32) (cr : Nat → Int32) (tr : Nat → Int32) (lw : Nat → Int32) (q : Nat → Int32) (c0 : Int32) (w0 : Int32)  (hb_n : n ≤ 8) (hb_td : td ≤ 40) : Ci l yX8_childOf (WW yX8_childOf cX8_childOf 3 (some FieldType.int)) rmX8_childOf D vwCl (TY g) [.ref bo, .int c0, .int w0] [(bo, .inr (8, [.ref (an 0), .ref (ak 0), .int ik, .ref (bT), .ref (hT), .ref (ar 0), .ref (bS), .ref (bV), .ref (th 0)])), (an 0, .inr (2, [.ref (an 1), .ref (an 2), .ref (an 3), .ref (an 4), .ref (an 5), .ref (an 6), .ref (an 7), .int (nI n), .ref (an 8), .ref (an 9), .ref (an 10), .ref (an 11), .int (nI td), .int z, .ref (an 12)])), (an 1, .inl (g 0, 8, .inl kd)), (an 2, .inl (g 0, 8, .inl ka)), (an 3, .inl (g 0, 8, .inl ho)), (an 4, .inl (g 0, 8, .inl fa)), (an 5, .inl (g 0, 8, .inl si)), (an 6, .inl (g 0, 8, .inl kn)), (an 7, .inl (g 0, 8, .inl aw)), (an 8, .inl (g 0, 40, .inl ev)), (an 9, .inl (g 0, 40, .inl cr)), (an 10, .inl (g 0, 40, .inl tr)), (an 11, .inl (g 0, 4, .inl lw)), (an 12, .inr (0, [.int (q 0), .int (q 1), .int (q 2), .int (q 3), .int (q 4), .int (q 5), .int (q 6), .int (q 7), .int (q 8)]))] (fun r u => (r = aChildOf c0 w0 (n, kd, ka, ho, fa, si, kn, aw, ev, cr, tr, lw, td, z)) ∧ u = [(bo, .inr (8, [.ref (an 0), .ref (ak 0), .int ik, .ref (bT), .ref (hT), .ref (ar 0), .ref (bS), .ref (bV), .ref (th 0)])), (an 0, .inr (2, [.ref (an 1), .ref (an 2), .ref (an 3), .ref (an 4), .ref (an 5), .ref (an 6), .ref (an 7), .int (nI n), .ref (an 8), .ref (an 9), .ref (an 10), .ref (an 11), .int (nI td), .int z, .ref (an 12)])), (an 1, .inl (g 0, 8, .inl kd)), (an 2, .inl (g 0, 8, .inl ka)), (an 3, .inl (g 0, 8, .inl ho)), (an 4, .inl (g 0, 8, .inl fa)), (an 5, .inl (g 0, 8, .inl si)), (an 6, .inl (g 0, 8, .inl kn)), (an 7, .inl (g 0, 8, .inl aw)), (an 8, .inl (g 0, 40, .inl ev)), (an 9, .inl (g 0, 40, .inl cr)), (an 10, .inl (g 0, 40, .inl tr)), (an 11, .inl (g 0, 4, .inl lw)), (an 12, .inr (0, [.int (q 0), .int (q 1), .int (q 2), .int (q 3), .int (q 4), .int (q 5), .int (q 6), .int (q 7), .int (q 8)]))]) := by
  refine ci_in (by decide) (Nat.le_of_ble_eq_true rfl) (a0 := [bo, an 0, an 1, an 2, an 3, an 4, an 5, an 6, an 7, an 8, an 9, an 10, an 11, an 12]) rfl (fun p e s m args below meth c A Q hQ B hr hsc => ?_)
  refine s_aload_n B dX8_childOf_0 rfl 0 rfl ?_
  refine s_get (T := TX8) B inX8 0 rfl rfl 0 (Nat.le_of_ble_eq_true rfl) fl_X8_10 rfl rfl dX8_childOf_1 ?_
  refine s_iload_n B dX8_childOf_4 rfl 1 rfl ?_
  refine s_callVi B hsc (c_X2_hasChild l D g an kd ka ho fa si kn aw n ev cr tr lw td z q c0) (gw_V ml_X8_102 im_yX2_hasChild se_yX2_hasChild ini_RX2 co_yX2_hasChild) hd_X2_hasChild rfl rfl ⟨(Nat.le_of_ble_eq_true rfl), (Nat.le_of_ble_eq_true rfl)⟩ [1, 2, 3, 4, 5, 6, 7, 8, 9, 10, 11, 12, 13] [0, 1, 2, 3, 4] rfl rfl rfl (ci := 2) (q0 := 0) rfl rfl rfl rfl rfl (Nat.le_of_ble_eq_true rfl) dX8_childOf_5 (fun r_1 u_2 hpo => ?_)
  obtain ⟨rfl, rfl⟩ := hpo
  refine s_st (st' := [.int (if ¬ c0 < 0 ∧ c0 < nI n then 1 else 0)]) rfl ?_
  refine s_ws (ws' := [(bo, .inr (8, [.ref (an 0), .ref (ak 0), .int ik, .ref (bT), .ref (hT), .ref (ar 0), .ref (bS), .ref (bV), .ref (th 0)])), (an 0, .inr (2, [.ref (an 1), .ref (an 2), .ref (an 3), .ref (an 4), .ref (an 5), .ref (an 6), .ref (an 7), .int (nI n), .ref (an 8), .ref (an 9), .ref (an 10), .ref (an 11), .int (nI td), .int z, .ref (an 12)])), (an 1, .inl (g 0, 8, .inl kd)), (an 2, .inl (g 0, 8, .inl ka)), (an 3, .inl (g 0, 8, .inl ho)), (an 4, .inl (g 0, 8, .inl fa)), (an 5, .inl (g 0, 8, .inl si)), (an 6, .inl (g 0, 8, .inl kn)), (an 7, .inl (g 0, 8, .inl aw)), (an 8, .inl (g 0, 40, .inl ev)), (an 9, .inl (g 0, 40, .inl cr)), (an 10, .inl (g 0, 40, .inl tr)), (an 11, .inl (g 0, 4, .inl lw)), (an 12, .inr (0, [.int (q 0), .int (q 1), .int (q 2), .int (q 3), .int (q 4), .int (q 5), .int (q 6), .int (q 7), .int (q 8)]))]) rfl ?_
  refine s_bif_eq (tgt := 23) B dX8_childOf_8 rfl (fun h8 => ?_) (fun h8 => ?_)
  · refine s_iconst B dX8_childOf_23 ic_m1 ?_
    refine s_iret B hQ hr dX8_childOf_24 rfl ?_
    exact ⟨(cg_childOf_no (G := (n, kd, ka, ho, fa, si, kn, aw, ev, cr, tr, lw, td, z)) h8), rfl⟩
  · obtain ⟨k_3, hk_4, rfl⟩ := nat_lt2 (N := n) h8.1 h8.2 (by omega)
    refine s_aload_n B dX8_childOf_11 rfl 0 rfl ?_
    refine s_get (T := TX8) B inX8 0 rfl rfl 0 (Nat.le_of_ble_eq_true rfl) fl_X8_10 rfl rfl dX8_childOf_12 ?_
    refine s_iload_n B dX8_childOf_15 rfl 1 rfl ?_
    refine s_iload_n B dX8_childOf_16 rfl 2 rfl ?_
    refine s_callVi B hsc (c_X2_featureOf l D g an kd ka ho fa si kn aw n ev cr tr lw td z q k_3 w0 (by omega)) (gw_V ml_X8_105 im_yX2_featureOf se_yX2_featureOf ini_RX2 co_yX2_featureOf) hd_X2_featureOf rfl rfl ⟨(Nat.le_of_ble_eq_true rfl), (Nat.le_of_ble_eq_true rfl)⟩ [1, 2, 3, 4, 5, 6, 7, 8, 9, 10, 11, 12, 13] [0, 1, 2, 3, 4] rfl rfl rfl (ci := 2) (q0 := 0) rfl rfl rfl rfl rfl (Nat.le_of_ble_eq_true rfl) dX8_childOf_17 (fun r_5 u_6 hpo => ?_)
    obtain ⟨rfl, rfl⟩ := hpo
    refine s_st (st' := [.int (if w0 = 0 then kd k_3 else if w0 = 1 then ka k_3 else if w0 = 2 then ho k_3 else if w0 = 3 then fa k_3 else if w0 = 4 then si k_3 else if w0 = 5 then kn k_3 else if w0 = 6 then aw k_3 else -1)]) rfl ?_
    refine s_ws (ws' := [(bo, .inr (8, [.ref (an 0), .ref (ak 0), .int ik, .ref (bT), .ref (hT), .ref (ar 0), .ref (bS), .ref (bV), .ref (th 0)])), (an 0, .inr (2, [.ref (an 1), .ref (an 2), .ref (an 3), .ref (an 4), .ref (an 5), .ref (an 6), .ref (an 7), .int (nI n), .ref (an 8), .ref (an 9), .ref (an 10), .ref (an 11), .int (nI td), .int z, .ref (an 12)])), (an 1, .inl (g 0, 8, .inl kd)), (an 2, .inl (g 0, 8, .inl ka)), (an 3, .inl (g 0, 8, .inl ho)), (an 4, .inl (g 0, 8, .inl fa)), (an 5, .inl (g 0, 8, .inl si)), (an 6, .inl (g 0, 8, .inl kn)), (an 7, .inl (g 0, 8, .inl aw)), (an 8, .inl (g 0, 40, .inl ev)), (an 9, .inl (g 0, 40, .inl cr)), (an 10, .inl (g 0, 40, .inl tr)), (an 11, .inl (g 0, 4, .inl lw)), (an 12, .inr (0, [.int (q 0), .int (q 1), .int (q 2), .int (q 3), .int (q 4), .int (q 5), .int (q 6), .int (q 7), .int (q 8)]))]) rfl ?_
    refine s_goto (tgt := 24) B dX8_childOf_20 rfl ?_
    refine s_iret B hQ hr dX8_childOf_24 rfl ?_
    exact ⟨(cg_childOf_ok (G := (n, kd, ka, ho, fa, si, kn, aw, ev, cr, tr, lw, td, z)) (by omega) hb_n), rfl⟩
def rmX8_mind : Room := { frames := 1, cells := 0, slots := 0, locals := 21 }
theorem hd_X8_mind : yX8_mind.cls = RX8 ∧ yX8_mind.cls ≠ "java/lang/invoke/MethodHandle" ∧ yX8_mind.cls ≠ "java/lang/invoke/VarHandle" ∧ (parseMethodDescriptor yX8_mind.desc).map (fun d => d.parameters.length) = some 3 := by decide +kernel
set_option maxHeartbeats 4000000 in
set_option maxRecDepth 100000 in
theorem c_X8_mind (l : Launch) (D : va_G) (g : Nat → ClassId) (bo : Nat) (an : Nat → Nat) (ak : Nat → Nat) (bT : Nat) (hT : Nat) (ar : Nat → Nat) (bS : Nat) (bV : Nat) (th : Nat → Nat) (ik : Int32) (n : Nat) (td : Nat) (z : Int32) (kd : Nat → Int32) (ka : Nat → Int32) (ho : Nat → Int32) (fa : Nat → Int32) (si : Nat → Int32) (kn : Nat → Int32) (aw : Nat → Int32) (ev : Nat → Int32) (cr : Nat → Int32) (tr : Nat → Int32) (lw : Nat → Int32) (q : Nat → Int32) (c0 : Int32) (k0 : Int32) (a0 : Int32)  (hb_n : n ≤ 8) (hb_td : td ≤ 40) : Ci l yX8_mind (WW yX8_mind cX8_mind 5 (some FieldType.int)) rmX8_mind D vwCl (TY g) [.ref bo, .int c0, .int k0, .int a0] [(bo, .inr (8, [.ref (an 0), .ref (ak 0), .int ik, .ref (bT), .ref (hT), .ref (ar 0), .ref (bS), .ref (bV), .ref (th 0)])), (an 0, .inr (2, [.ref (an 1), .ref (an 2), .ref (an 3), .ref (an 4), .ref (an 5), .ref (an 6), .ref (an 7), .int (nI n), .ref (an 8), .ref (an 9), .ref (an 10), .ref (an 11), .int (nI td), .int z, .ref (an 12)])), (an 1, .inl (g 0, 8, .inl kd)), (an 2, .inl (g 0, 8, .inl ka)), (an 3, .inl (g 0, 8, .inl ho)), (an 4, .inl (g 0, 8, .inl fa)), (an 5, .inl (g 0, 8, .inl si)), (an 6, .inl (g 0, 8, .inl kn)), (an 7, .inl (g 0, 8, .inl aw)), (an 8, .inl (g 0, 40, .inl ev)), (an 9, .inl (g 0, 40, .inl cr)), (an 10, .inl (g 0, 40, .inl tr)), (an 11, .inl (g 0, 4, .inl lw)), (an 12, .inr (0, [.int (q 0), .int (q 1), .int (q 2), .int (q 3), .int (q 4), .int (q 5), .int (q 6), .int (q 7), .int (q 8)]))] (fun r u => ∃ (kd' : Nat → Int32) (ka' : Nat → Int32), (((n, kd', ka', ho, fa, si, kn, aw, ev, cr, tr, lw, td, z) : MG) = gMind c0 k0 a0 (n, kd, ka, ho, fa, si, kn, aw, ev, cr, tr, lw, td, z) ∧ r = aMind c0 k0 a0 (n, kd, ka, ho, fa, si, kn, aw, ev, cr, tr, lw, td, z)) ∧ u = [(bo, .inr (8, [.ref (an 0), .ref (ak 0), .int ik, .ref (bT), .ref (hT), .ref (ar 0), .ref (bS), .ref (bV), .ref (th 0)])), (an 0, .inr (2, [.ref (an 1), .ref (an 2), .ref (an 3), .ref (an 4), .ref (an 5), .ref (an 6), .ref (an 7), .int (nI n), .ref (an 8), .ref (an 9), .ref (an 10), .ref (an 11), .int (nI td), .int z, .ref (an 12)])), (an 1, .inl (g 0, 8, .inl kd')), (an 2, .inl (g 0, 8, .inl ka')), (an 3, .inl (g 0, 8, .inl ho)), (an 4, .inl (g 0, 8, .inl fa)), (an 5, .inl (g 0, 8, .inl si)), (an 6, .inl (g 0, 8, .inl kn)), (an 7, .inl (g 0, 8, .inl aw)), (an 8, .inl (g 0, 40, .inl ev)), (an 9, .inl (g 0, 40, .inl cr)), (an 10, .inl (g 0, 40, .inl tr)), (an 11, .inl (g 0, 4, .inl lw)), (an 12, .inr (0, [.int (q 0), .int (q 1), .int (q 2), .int (q 3), .int (q 4), .int (q 5), .int (q 6), .int (q 7), .int (q 8)]))]) := by
  refine ci_in (by decide) (Nat.le_of_ble_eq_true rfl) (a0 := [bo, an 0, an 1, an 2, an 3, an 4, an 5, an 6, an 7, an 8, an 9, an 10, an 11, an 12]) rfl (fun p e s m args below meth c A Q hQ B hr hsc => ?_)
  refine s_aload_n B dX8_mind_0 rfl 0 rfl ?_
  refine s_get (T := TX8) B inX8 0 rfl rfl 0 (Nat.le_of_ble_eq_true rfl) fl_X8_10 rfl rfl dX8_mind_1 ?_
  refine s_iload_n B dX8_mind_4 rfl 1 rfl ?_
  refine s_callVi B hsc (c_X2_hasChild l D g an kd ka ho fa si kn aw n ev cr tr lw td z q c0) (gw_V ml_X8_102 im_yX2_hasChild se_yX2_hasChild ini_RX2 co_yX2_hasChild) hd_X2_hasChild rfl rfl ⟨(Nat.le_of_ble_eq_true rfl), (Nat.le_of_ble_eq_true rfl)⟩ [1, 2, 3, 4, 5, 6, 7, 8, 9, 10, 11, 12, 13] [0, 1, 2, 3, 4] rfl rfl rfl (ci := 2) (q0 := 0) rfl rfl rfl rfl rfl (Nat.le_of_ble_eq_true rfl) dX8_mind_5 (fun r_1 u_2 hpo => ?_)
  obtain ⟨rfl, rfl⟩ := hpo
  refine s_st (st' := [.int (if ¬ c0 < 0 ∧ c0 < nI n then 1 else 0)]) rfl ?_
  refine s_ws (ws' := [(bo, .inr (8, [.ref (an 0), .ref (ak 0), .int ik, .ref (bT), .ref (hT), .ref (ar 0), .ref (bS), .ref (bV), .ref (th 0)])), (an 0, .inr (2, [.ref (an 1), .ref (an 2), .ref (an 3), .ref (an 4), .ref (an 5), .ref (an 6), .ref (an 7), .int (nI n), .ref (an 8), .ref (an 9), .ref (an 10), .ref (an 11), .int (nI td), .int z, .ref (an 12)])), (an 1, .inl (g 0, 8, .inl kd)), (an 2, .inl (g 0, 8, .inl ka)), (an 3, .inl (g 0, 8, .inl ho)), (an 4, .inl (g 0, 8, .inl fa)), (an 5, .inl (g 0, 8, .inl si)), (an 6, .inl (g 0, 8, .inl kn)), (an 7, .inl (g 0, 8, .inl aw)), (an 8, .inl (g 0, 40, .inl ev)), (an 9, .inl (g 0, 40, .inl cr)), (an 10, .inl (g 0, 40, .inl tr)), (an 11, .inl (g 0, 4, .inl lw)), (an 12, .inr (0, [.int (q 0), .int (q 1), .int (q 2), .int (q 3), .int (q 4), .int (q 5), .int (q 6), .int (q 7), .int (q 8)]))]) rfl ?_
  refine s_bif_eq (tgt := 25) B dX8_mind_8 rfl (fun h8 => ?_) (fun h8 => ?_)
  · refine s_iconst B dX8_mind_25 ic_m1 ?_
    refine s_iret B hQ hr dX8_mind_26 rfl ?_
    exact ⟨kd, ka, (cg_mind_no (G := (n, kd, ka, ho, fa, si, kn, aw, ev, cr, tr, lw, td, z)) (by first | exact Or.inl (by assumption) | exact Or.inr (Or.inl (by assumption)) | exact Or.inr (Or.inr (by assumption)))), rfl⟩
  · obtain ⟨k_3, hk_4, rfl⟩ := nat_lt2 (N := n) h8.1 h8.2 (by omega)
    refine s_iload_n B dX8_mind_11 rfl 2 rfl ?_
    refine s_callSi B hsc (c_X8_isKind l D g k0) (gw_S ml_X8_88 sm_yX8_isKind ini_RX8 co_yX8_isKind) hd_X8_isKind rfl rfl ⟨(Nat.le_of_ble_eq_true rfl), (Nat.le_of_ble_eq_true rfl)⟩ [] [0, 1, 2, 3, 4] rfl rfl rfl rfl rfl (Nat.le_of_ble_eq_true rfl) dX8_mind_12 (fun r_5 u_6 hpo => ?_)
    obtain ⟨rfl, rfl⟩ := hpo
    refine s_st (st' := [.int (if ¬ k0 < 0 ∧ k0 < 6 then 1 else 0)]) rfl ?_
    refine s_ws (ws' := [(bo, .inr (8, [.ref (an 0), .ref (ak 0), .int ik, .ref (bT), .ref (hT), .ref (ar 0), .ref (bS), .ref (bV), .ref (th 0)])), (an 0, .inr (2, [.ref (an 1), .ref (an 2), .ref (an 3), .ref (an 4), .ref (an 5), .ref (an 6), .ref (an 7), .int (nI n), .ref (an 8), .ref (an 9), .ref (an 10), .ref (an 11), .int (nI td), .int z, .ref (an 12)])), (an 1, .inl (g 0, 8, .inl kd)), (an 2, .inl (g 0, 8, .inl ka)), (an 3, .inl (g 0, 8, .inl ho)), (an 4, .inl (g 0, 8, .inl fa)), (an 5, .inl (g 0, 8, .inl si)), (an 6, .inl (g 0, 8, .inl kn)), (an 7, .inl (g 0, 8, .inl aw)), (an 8, .inl (g 0, 40, .inl ev)), (an 9, .inl (g 0, 40, .inl cr)), (an 10, .inl (g 0, 40, .inl tr)), (an 11, .inl (g 0, 4, .inl lw)), (an 12, .inr (0, [.int (q 0), .int (q 1), .int (q 2), .int (q 3), .int (q 4), .int (q 5), .int (q 6), .int (q 7), .int (q 8)]))]) rfl ?_
    refine s_bif_eq (tgt := 25) B dX8_mind_15 rfl (fun h15 => ?_) (fun h15 => ?_)
    · refine s_iconst B dX8_mind_25 ic_m1 ?_
      refine s_iret B hQ hr dX8_mind_26 rfl ?_
      exact ⟨kd, ka, (cg_mind_no (G := (n, kd, ka, ho, fa, si, kn, aw, ev, cr, tr, lw, td, z)) (by first | exact Or.inl (by assumption) | exact Or.inr (Or.inl (by assumption)) | exact Or.inr (Or.inr (by assumption)))), rfl⟩
    · obtain ⟨k_7, hk_8, rfl⟩ := nat_lt2 (N := 6) h15.1 h15.2 (by omega)
      refine s_iload_n B dX8_mind_18 rfl 3 rfl ?_
      refine s_callSi B hsc (c_X8_isA l D g a0) (gw_S ml_X8_92 sm_yX8_isA ini_RX8 co_yX8_isA) hd_X8_isA rfl rfl ⟨(Nat.le_of_ble_eq_true rfl), (Nat.le_of_ble_eq_true rfl)⟩ [] [0, 1, 2, 3, 4] rfl rfl rfl rfl rfl (Nat.le_of_ble_eq_true rfl) dX8_mind_19 (fun r_9 u_10 hpo => ?_)
      obtain ⟨rfl, rfl⟩ := hpo
      refine s_st (st' := [.int (if ¬ a0 < 0 ∧ a0 ≤ 9 then 1 else 0)]) rfl ?_
      refine s_ws (ws' := [(bo, .inr (8, [.ref (an 0), .ref (ak 0), .int ik, .ref (bT), .ref (hT), .ref (ar 0), .ref (bS), .ref (bV), .ref (th 0)])), (an 0, .inr (2, [.ref (an 1), .ref (an 2), .ref (an 3), .ref (an 4), .ref (an 5), .ref (an 6), .ref (an 7), .int (nI n), .ref (an 8), .ref (an 9), .ref (an 10), .ref (an 11), .int (nI td), .int z, .ref (an 12)])), (an 1, .inl (g 0, 8, .inl kd)), (an 2, .inl (g 0, 8, .inl ka)), (an 3, .inl (g 0, 8, .inl ho)), (an 4, .inl (g 0, 8, .inl fa)), (an 5, .inl (g 0, 8, .inl si)), (an 6, .inl (g 0, 8, .inl kn)), (an 7, .inl (g 0, 8, .inl aw)), (an 8, .inl (g 0, 40, .inl ev)), (an 9, .inl (g 0, 40, .inl cr)), (an 10, .inl (g 0, 40, .inl tr)), (an 11, .inl (g 0, 4, .inl lw)), (an 12, .inr (0, [.int (q 0), .int (q 1), .int (q 2), .int (q 3), .int (q 4), .int (q 5), .int (q 6), .int (q 7), .int (q 8)]))]) rfl ?_
      refine s_bif_ne (tgt := 27) B dX8_mind_22 rfl (fun h22 => ?_) (fun h22 => ?_)
      · obtain ⟨k_11, hk_12, rfl⟩ := nat_le2 (N := 9) h22.1 h22.2 (by omega)
        refine s_aload_n B dX8_mind_27 rfl 0 rfl ?_
        refine s_get (T := TX8) B inX8 0 rfl rfl 0 (Nat.le_of_ble_eq_true rfl) fl_X8_10 rfl rfl dX8_mind_28 ?_
        refine s_get (T := TX2) B inX2 1 rfl rfl 0 (Nat.le_of_ble_eq_true rfl) fl_X8_109 rfl rfl dX8_mind_31 ?_
        refine s_iload_n B dX8_mind_34 rfl 1 rfl ?_
        refine s_ialdN B 2 0 rfl rfl dX8_mind_35 (by omega) (by decide) ?_
        refine s_istore (lv' := [(4, _), (0, _), (1, _), (2, _), (3, _)]) B dX8_mind_36 (Nat.le_of_ble_eq_true rfl) rfl ?_
        refine s_aload_n B dX8_mind_38 rfl 1 rfl ?_
        refine s_get (T := TX8) B inX8 0 rfl rfl 0 (Nat.le_of_ble_eq_true rfl) fl_X8_10 rfl rfl dX8_mind_39 ?_
        refine s_get (T := TX2) B inX2 1 rfl rfl 0 (Nat.le_of_ble_eq_true rfl) fl_X8_109 rfl rfl dX8_mind_42 ?_
        refine s_iload_n B dX8_mind_45 rfl 2 rfl ?_
        refine s_iload_n B dX8_mind_46 rfl 3 rfl ?_
        refine s_iastN (ws' := [_, _, _, _, _, _, _, _, _, _, _, _, _, _]) B 2 0 rfl rfl rfl dX8_mind_47 (by omega) (by decide) ?_
        refine s_aload_n B dX8_mind_48 rfl 1 rfl ?_
        refine s_get (T := TX8) B inX8 0 rfl rfl 0 (Nat.le_of_ble_eq_true rfl) fl_X8_10 rfl rfl dX8_mind_49 ?_
        refine s_get (T := TX2) B inX2 1 rfl rfl 1 (Nat.le_of_ble_eq_true rfl) fl_X8_113 rfl rfl dX8_mind_52 ?_
        refine s_iload_n B dX8_mind_55 rfl 2 rfl ?_
        refine s_iload_n B dX8_mind_56 rfl 4 rfl ?_
        refine s_iastN (ws' := [_, _, _, _, _, _, _, _, _, _, _, _, _, _]) B 3 0 rfl rfl rfl dX8_mind_57 (by omega) (by decide) ?_
        refine s_iload B dX8_mind_58 0 rfl ?_
        refine s_iret B hQ hr dX8_mind_60 rfl ?_
        exact ⟨(upd kd k_3 (nI k_7)), (upd ka k_3 (nI k_11)), (cg_mind_ok (G := (n, kd, ka, ho, fa, si, kn, aw, ev, cr, tr, lw, td, z)) (by omega) hb_n ⟨h15, h22⟩), rfl⟩
      · refine s_iconst B dX8_mind_25 ic_m1 ?_
        refine s_iret B hQ hr dX8_mind_26 rfl ?_
        exact ⟨kd, ka, (cg_mind_no (G := (n, kd, ka, ho, fa, si, kn, aw, ev, cr, tr, lw, td, z)) (by first | exact Or.inl (by assumption) | exact Or.inr (Or.inl (by assumption)) | exact Or.inr (Or.inr (by assumption)))), rfl⟩
def rmX8_sick : Room := { frames := 1, cells := 0, slots := 0, locals := 21 }
theorem hd_X8_sick : yX8_sick.cls = RX8 ∧ yX8_sick.cls ≠ "java/lang/invoke/MethodHandle" ∧ yX8_sick.cls ≠ "java/lang/invoke/VarHandle" ∧ (parseMethodDescriptor yX8_sick.desc).map (fun d => d.parameters.length) = some 2 := by decide +kernel
set_option maxHeartbeats 4000000 in
set_option maxRecDepth 100000 in
theorem c_X8_sick (l : Launch) (D : va_G) (g : Nat → ClassId) (bo : Nat) (an : Nat → Nat) (ak : Nat → Nat) (bT : Nat) (hT : Nat) (ar : Nat → Nat) (bS : Nat) (bV : Nat) (th : Nat → Nat) (ik : Int32) (n : Nat) (td : Nat) (z : Int32) (kd : Nat → Int32) (ka : Nat → Int32) (ho : Nat → Int32) (fa : Nat → Int32) (si : Nat → Int32) (kn : Nat → Int32) (aw : Nat → Int32) (ev : Nat → Int32) (cr : Nat → Int32) (tr : Nat → Int32) (lw : Nat → Int32) (q : Nat → Int32) (c0 : Int32) (x0 : Int32)  (hb_n : n ≤ 8) (hb_td : td ≤ 40) : Ci l yX8_sick (WW yX8_sick cX8_sick 4 (some FieldType.int)) rmX8_sick D vwCl (TY g) [.ref bo, .int c0, .int x0] [(bo, .inr (8, [.ref (an 0), .ref (ak 0), .int ik, .ref (bT), .ref (hT), .ref (ar 0), .ref (bS), .ref (bV), .ref (th 0)])), (an 0, .inr (2, [.ref (an 1), .ref (an 2), .ref (an 3), .ref (an 4), .ref (an 5), .ref (an 6), .ref (an 7), .int (nI n), .ref (an 8), .ref (an 9), .ref (an 10), .ref (an 11), .int (nI td), .int z, .ref (an 12)])), (an 1, .inl (g 0, 8, .inl kd)), (an 2, .inl (g 0, 8, .inl ka)), (an 3, .inl (g 0, 8, .inl ho)), (an 4, .inl (g 0, 8, .inl fa)), (an 5, .inl (g 0, 8, .inl si)), (an 6, .inl (g 0, 8, .inl kn)), (an 7, .inl (g 0, 8, .inl aw)), (an 8, .inl (g 0, 40, .inl ev)), (an 9, .inl (g 0, 40, .inl cr)), (an 10, .inl (g 0, 40, .inl tr)), (an 11, .inl (g 0, 4, .inl lw)), (an 12, .inr (0, [.int (q 0), .int (q 1), .int (q 2), .int (q 3), .int (q 4), .int (q 5), .int (q 6), .int (q 7), .int (q 8)]))] (fun r u => ∃ (si' : Nat → Int32), (((n, kd, ka, ho, fa, si', kn, aw, ev, cr, tr, lw, td, z) : MG) = gSick c0 x0 (n, kd, ka, ho, fa, si, kn, aw, ev, cr, tr, lw, td, z) ∧ r = aSick c0 x0 (n, kd, ka, ho, fa, si, kn, aw, ev, cr, tr, lw, td, z)) ∧ u = [(bo, .inr (8, [.ref (an 0), .ref (ak 0), .int ik, .ref (bT), .ref (hT), .ref (ar 0), .ref (bS), .ref (bV), .ref (th 0)])), (an 0, .inr (2, [.ref (an 1), .ref (an 2), .ref (an 3), .ref (an 4), .ref (an 5), .ref (an 6), .ref (an 7), .int (nI n), .ref (an 8), .ref (an 9), .ref (an 10), .ref (an 11), .int (nI td), .int z, .ref (an 12)])), (an 1, .inl (g 0, 8, .inl kd)), (an 2, .inl (g 0, 8, .inl ka)), (an 3, .inl (g 0, 8, .inl ho)), (an 4, .inl (g 0, 8, .inl fa)), (an 5, .inl (g 0, 8, .inl si')), (an 6, .inl (g 0, 8, .inl kn)), (an 7, .inl (g 0, 8, .inl aw)), (an 8, .inl (g 0, 40, .inl ev)), (an 9, .inl (g 0, 40, .inl cr)), (an 10, .inl (g 0, 40, .inl tr)), (an 11, .inl (g 0, 4, .inl lw)), (an 12, .inr (0, [.int (q 0), .int (q 1), .int (q 2), .int (q 3), .int (q 4), .int (q 5), .int (q 6), .int (q 7), .int (q 8)]))]) := by
  refine ci_in (by decide) (Nat.le_of_ble_eq_true rfl) (a0 := [bo, an 0, an 1, an 2, an 3, an 4, an 5, an 6, an 7, an 8, an 9, an 10, an 11, an 12]) rfl (fun p e s m args below meth c A Q hQ B hr hsc => ?_)
  refine s_aload_n B dX8_sick_0 rfl 0 rfl ?_
  refine s_get (T := TX8) B inX8 0 rfl rfl 0 (Nat.le_of_ble_eq_true rfl) fl_X8_10 rfl rfl dX8_sick_1 ?_
  refine s_iload_n B dX8_sick_4 rfl 1 rfl ?_
  refine s_callVi B hsc (c_X2_hasChild l D g an kd ka ho fa si kn aw n ev cr tr lw td z q c0) (gw_V ml_X8_102 im_yX2_hasChild se_yX2_hasChild ini_RX2 co_yX2_hasChild) hd_X2_hasChild rfl rfl ⟨(Nat.le_of_ble_eq_true rfl), (Nat.le_of_ble_eq_true rfl)⟩ [1, 2, 3, 4, 5, 6, 7, 8, 9, 10, 11, 12, 13] [0, 1, 2, 3, 4] rfl rfl rfl (ci := 2) (q0 := 0) rfl rfl rfl rfl rfl (Nat.le_of_ble_eq_true rfl) dX8_sick_5 (fun r_1 u_2 hpo => ?_)
  obtain ⟨rfl, rfl⟩ := hpo
  refine s_st (st' := [.int (if ¬ c0 < 0 ∧ c0 < nI n then 1 else 0)]) rfl ?_
  refine s_ws (ws' := [(bo, .inr (8, [.ref (an 0), .ref (ak 0), .int ik, .ref (bT), .ref (hT), .ref (ar 0), .ref (bS), .ref (bV), .ref (th 0)])), (an 0, .inr (2, [.ref (an 1), .ref (an 2), .ref (an 3), .ref (an 4), .ref (an 5), .ref (an 6), .ref (an 7), .int (nI n), .ref (an 8), .ref (an 9), .ref (an 10), .ref (an 11), .int (nI td), .int z, .ref (an 12)])), (an 1, .inl (g 0, 8, .inl kd)), (an 2, .inl (g 0, 8, .inl ka)), (an 3, .inl (g 0, 8, .inl ho)), (an 4, .inl (g 0, 8, .inl fa)), (an 5, .inl (g 0, 8, .inl si)), (an 6, .inl (g 0, 8, .inl kn)), (an 7, .inl (g 0, 8, .inl aw)), (an 8, .inl (g 0, 40, .inl ev)), (an 9, .inl (g 0, 40, .inl cr)), (an 10, .inl (g 0, 40, .inl tr)), (an 11, .inl (g 0, 4, .inl lw)), (an 12, .inr (0, [.int (q 0), .int (q 1), .int (q 2), .int (q 3), .int (q 4), .int (q 5), .int (q 6), .int (q 7), .int (q 8)]))]) rfl ?_
  refine s_bif_eq (tgt := 21) B dX8_sick_8 rfl (fun h8 => ?_) (fun h8 => ?_)
  · refine s_iconst B dX8_sick_21 ic_m1 ?_
    refine s_iret B hQ hr dX8_sick_22 rfl ?_
    exact ⟨si, (cg_sick_no (G := (n, kd, ka, ho, fa, si, kn, aw, ev, cr, tr, lw, td, z)) (by first | exact Or.inl (by assumption) | exact Or.inr (fun q => q.1 (by assumption)) | exact Or.inr (fun q => absurd (Int32.not_lt.mp q.2) (by assumption)))), rfl⟩
  · obtain ⟨k_3, hk_4, rfl⟩ := nat_lt2 (N := n) h8.1 h8.2 (by omega)
    refine s_iload_n B dX8_sick_11 rfl 2 rfl ?_
    refine s_if_lt (tgt := 21) B dX8_sick_12 rfl (fun h12 => ?_) (fun h12 => ?_)
    · refine s_iconst B dX8_sick_21 ic_m1 ?_
      refine s_iret B hQ hr dX8_sick_22 rfl ?_
      exact ⟨si, (cg_sick_no (G := (n, kd, ka, ho, fa, si, kn, aw, ev, cr, tr, lw, td, z)) (by first | exact Or.inl (by assumption) | exact Or.inr (fun q => q.1 (by assumption)) | exact Or.inr (fun q => absurd (Int32.not_lt.mp q.2) (by assumption)))), rfl⟩
    · refine s_iload_n B dX8_sick_15 rfl 2 rfl ?_
      refine s_bipush B dX8_sick_16 bp_20 ?_
      refine s_icmp_le (tgt := 23) B dX8_sick_18 rfl (fun h18 => ?_) (fun h18 => ?_)
      · refine s_aload_n B dX8_sick_23 rfl 0 rfl ?_
        refine s_get (T := TX8) B inX8 0 rfl rfl 0 (Nat.le_of_ble_eq_true rfl) fl_X8_10 rfl rfl dX8_sick_24 ?_
        refine s_get (T := TX2) B inX2 1 rfl rfl 4 (Nat.le_of_ble_eq_true rfl) fl_X8_116 rfl rfl dX8_sick_27 ?_
        refine s_iload_n B dX8_sick_30 rfl 1 rfl ?_
        refine s_ialdN B 6 0 rfl rfl dX8_sick_31 (by omega) (by decide) ?_
        refine s_istore_n (lv' := [(3, _), (0, _), (1, _), (2, _)]) B dX8_sick_32 rfl (Nat.le_of_ble_eq_true rfl) rfl ?_
        refine s_aload_n B dX8_sick_33 rfl 1 rfl ?_
        refine s_get (T := TX8) B inX8 0 rfl rfl 0 (Nat.le_of_ble_eq_true rfl) fl_X8_10 rfl rfl dX8_sick_34 ?_
        refine s_get (T := TX2) B inX2 1 rfl rfl 4 (Nat.le_of_ble_eq_true rfl) fl_X8_116 rfl rfl dX8_sick_37 ?_
        refine s_iload_n B dX8_sick_40 rfl 2 rfl ?_
        refine s_iload_n B dX8_sick_41 rfl 3 rfl ?_
        refine s_iastN (ws' := [_, _, _, _, _, _, _, _, _, _, _, _, _, _]) B 6 0 rfl rfl rfl dX8_sick_42 (by omega) (by decide) ?_
        refine s_iload_n B dX8_sick_43 rfl 0 rfl ?_
        refine s_iret B hQ hr dX8_sick_44 rfl ?_
        exact ⟨(upd si k_3 x0), (cg_sick_ok (G := (n, kd, ka, ho, fa, si, kn, aw, ev, cr, tr, lw, td, z)) (by omega) hb_n ⟨h12, Int32.not_lt.mpr h18⟩), rfl⟩
      · refine s_iconst B dX8_sick_21 ic_m1 ?_
        refine s_iret B hQ hr dX8_sick_22 rfl ?_
        exact ⟨si, (cg_sick_no (G := (n, kd, ka, ho, fa, si, kn, aw, ev, cr, tr, lw, td, z)) (by first | exact Or.inl (by assumption) | exact Or.inr (fun q => q.1 (by assumption)) | exact Or.inr (fun q => absurd (Int32.not_lt.mp q.2) (by assumption)))), rfl⟩
def rmX8_event : Room := { frames := 1, cells := 0, slots := 0, locals := 20 }
theorem hd_X8_event : yX8_event.cls = RX8 ∧ yX8_event.cls ≠ "java/lang/invoke/MethodHandle" ∧ yX8_event.cls ≠ "java/lang/invoke/VarHandle" ∧ (parseMethodDescriptor yX8_event.desc).map (fun d => d.parameters.length) = some 2 := by decide +kernel
set_option maxHeartbeats 4000000 in
set_option maxRecDepth 100000 in
theorem c_X8_event (l : Launch) (D : va_G) (g : Nat → ClassId) (bo : Nat) (an : Nat → Nat) (ak : Nat → Nat) (bT : Nat) (hT : Nat) (ar : Nat → Nat) (bS : Nat) (bV : Nat) (th : Nat → Nat) (ik : Int32) (n : Nat) (td : Nat) (z : Int32) (kd : Nat → Int32) (ka : Nat → Int32) (ho : Nat → Int32) (fa : Nat → Int32) (si : Nat → Int32) (kn : Nat → Int32) (aw : Nat → Int32) (ev : Nat → Int32) (cr : Nat → Int32) (tr : Nat → Int32) (lw : Nat → Int32) (q : Nat → Int32) (c0 : Int32) (x0 : Int32)  (hb_n : n ≤ 8) (hb_td : td ≤ 40) : Ci l yX8_event (WW yX8_event cX8_event 4 (some FieldType.int)) rmX8_event D vwCl (TY g) [.ref bo, .int c0, .int x0] [(bo, .inr (8, [.ref (an 0), .ref (ak 0), .int ik, .ref (bT), .ref (hT), .ref (ar 0), .ref (bS), .ref (bV), .ref (th 0)])), (an 0, .inr (2, [.ref (an 1), .ref (an 2), .ref (an 3), .ref (an 4), .ref (an 5), .ref (an 6), .ref (an 7), .int (nI n), .ref (an 8), .ref (an 9), .ref (an 10), .ref (an 11), .int (nI td), .int z, .ref (an 12)])), (an 1, .inl (g 0, 8, .inl kd)), (an 2, .inl (g 0, 8, .inl ka)), (an 3, .inl (g 0, 8, .inl ho)), (an 4, .inl (g 0, 8, .inl fa)), (an 5, .inl (g 0, 8, .inl si)), (an 6, .inl (g 0, 8, .inl kn)), (an 7, .inl (g 0, 8, .inl aw)), (an 8, .inl (g 0, 40, .inl ev)), (an 9, .inl (g 0, 40, .inl cr)), (an 10, .inl (g 0, 40, .inl tr)), (an 11, .inl (g 0, 4, .inl lw)), (an 12, .inr (0, [.int (q 0), .int (q 1), .int (q 2), .int (q 3), .int (q 4), .int (q 5), .int (q 6), .int (q 7), .int (q 8)]))] (fun r u => ∃ (ev' : Nat → Int32), (((n, kd, ka, ho, fa, si, kn, aw, ev', cr, tr, lw, td, z) : MG) = gEvent c0 x0 (n, kd, ka, ho, fa, si, kn, aw, ev, cr, tr, lw, td, z) ∧ r = aEvent c0 x0 (n, kd, ka, ho, fa, si, kn, aw, ev, cr, tr, lw, td, z)) ∧ u = [(bo, .inr (8, [.ref (an 0), .ref (ak 0), .int ik, .ref (bT), .ref (hT), .ref (ar 0), .ref (bS), .ref (bV), .ref (th 0)])), (an 0, .inr (2, [.ref (an 1), .ref (an 2), .ref (an 3), .ref (an 4), .ref (an 5), .ref (an 6), .ref (an 7), .int (nI n), .ref (an 8), .ref (an 9), .ref (an 10), .ref (an 11), .int (nI td), .int z, .ref (an 12)])), (an 1, .inl (g 0, 8, .inl kd)), (an 2, .inl (g 0, 8, .inl ka)), (an 3, .inl (g 0, 8, .inl ho)), (an 4, .inl (g 0, 8, .inl fa)), (an 5, .inl (g 0, 8, .inl si)), (an 6, .inl (g 0, 8, .inl kn)), (an 7, .inl (g 0, 8, .inl aw)), (an 8, .inl (g 0, 40, .inl ev')), (an 9, .inl (g 0, 40, .inl cr)), (an 10, .inl (g 0, 40, .inl tr)), (an 11, .inl (g 0, 4, .inl lw)), (an 12, .inr (0, [.int (q 0), .int (q 1), .int (q 2), .int (q 3), .int (q 4), .int (q 5), .int (q 6), .int (q 7), .int (q 8)]))]) := by
  refine ci_in (by decide) (Nat.le_of_ble_eq_true rfl) (a0 := [bo, an 0, an 1, an 2, an 3, an 4, an 5, an 6, an 7, an 8, an 9, an 10, an 11, an 12]) rfl (fun p e s m args below meth c A Q hQ B hr hsc => ?_)
  refine s_iload_n B dX8_event_0 rfl 1 rfl ?_
  refine s_callSi B hsc (c_X8_isDay l D g c0) (gw_S ml_X8_119 sm_yX8_isDay ini_RX8 co_yX8_isDay) hd_X8_isDay rfl rfl ⟨(Nat.le_of_ble_eq_true rfl), (Nat.le_of_ble_eq_true rfl)⟩ [] [0, 1, 2, 3, 4] rfl rfl rfl rfl rfl (Nat.le_of_ble_eq_true rfl) dX8_event_1 (fun r_1 u_2 hpo => ?_)
  obtain ⟨rfl, rfl⟩ := hpo
  refine s_st (st' := [.int (if ¬ c0 < 0 ∧ c0 < 40 then 1 else 0)]) rfl ?_
  refine s_ws (ws' := [(bo, .inr (8, [.ref (an 0), .ref (ak 0), .int ik, .ref (bT), .ref (hT), .ref (ar 0), .ref (bS), .ref (bV), .ref (th 0)])), (an 0, .inr (2, [.ref (an 1), .ref (an 2), .ref (an 3), .ref (an 4), .ref (an 5), .ref (an 6), .ref (an 7), .int (nI n), .ref (an 8), .ref (an 9), .ref (an 10), .ref (an 11), .int (nI td), .int z, .ref (an 12)])), (an 1, .inl (g 0, 8, .inl kd)), (an 2, .inl (g 0, 8, .inl ka)), (an 3, .inl (g 0, 8, .inl ho)), (an 4, .inl (g 0, 8, .inl fa)), (an 5, .inl (g 0, 8, .inl si)), (an 6, .inl (g 0, 8, .inl kn)), (an 7, .inl (g 0, 8, .inl aw)), (an 8, .inl (g 0, 40, .inl ev)), (an 9, .inl (g 0, 40, .inl cr)), (an 10, .inl (g 0, 40, .inl tr)), (an 11, .inl (g 0, 4, .inl lw)), (an 12, .inr (0, [.int (q 0), .int (q 1), .int (q 2), .int (q 3), .int (q 4), .int (q 5), .int (q 6), .int (q 7), .int (q 8)]))]) rfl ?_
  refine s_bif_eq (tgt := 17) B dX8_event_4 rfl (fun h4 => ?_) (fun h4 => ?_)
  · refine s_iconst B dX8_event_17 ic_m1 ?_
    refine s_iret B hQ hr dX8_event_18 rfl ?_
    exact ⟨ev, (cg_event_no (G := (n, kd, ka, ho, fa, si, kn, aw, ev, cr, tr, lw, td, z)) (by first | exact Or.inl (by assumption) | exact Or.inr (fun q => q.1 (by assumption)) | exact Or.inr (fun q => absurd (Int32.not_lt.mp q.2) (by assumption)))), rfl⟩
  · obtain ⟨k_3, hk_4, rfl⟩ := nat_lt2 (N := 40) h4.1 h4.2 (by omega)
    refine s_iload_n B dX8_event_7 rfl 2 rfl ?_
    refine s_if_lt (tgt := 17) B dX8_event_8 rfl (fun h8 => ?_) (fun h8 => ?_)
    · refine s_iconst B dX8_event_17 ic_m1 ?_
      refine s_iret B hQ hr dX8_event_18 rfl ?_
      exact ⟨ev, (cg_event_no (G := (n, kd, ka, ho, fa, si, kn, aw, ev, cr, tr, lw, td, z)) (by first | exact Or.inl (by assumption) | exact Or.inr (fun q => q.1 (by assumption)) | exact Or.inr (fun q => absurd (Int32.not_lt.mp q.2) (by assumption)))), rfl⟩
    · refine s_iload_n B dX8_event_11 rfl 2 rfl ?_
      refine s_bipush B dX8_event_12 bp_31 ?_
      refine s_icmp_le (tgt := 19) B dX8_event_14 rfl (fun h14 => ?_) (fun h14 => ?_)
      · refine s_aload_n B dX8_event_19 rfl 0 rfl ?_
        refine s_get (T := TX8) B inX8 0 rfl rfl 0 (Nat.le_of_ble_eq_true rfl) fl_X8_10 rfl rfl dX8_event_20 ?_
        refine s_get (T := TX2) B inX2 1 rfl rfl 8 (Nat.le_of_ble_eq_true rfl) fl_X8_122 rfl rfl dX8_event_23 ?_
        refine s_iload_n B dX8_event_26 rfl 1 rfl ?_
        refine s_ialdN B 9 0 rfl rfl dX8_event_27 (by omega) (by decide) ?_
        refine s_istore_n (lv' := [(3, _), (0, _), (1, _), (2, _)]) B dX8_event_28 rfl (Nat.le_of_ble_eq_true rfl) rfl ?_
        refine s_aload_n B dX8_event_29 rfl 1 rfl ?_
        refine s_get (T := TX8) B inX8 0 rfl rfl 0 (Nat.le_of_ble_eq_true rfl) fl_X8_10 rfl rfl dX8_event_30 ?_
        refine s_get (T := TX2) B inX2 1 rfl rfl 8 (Nat.le_of_ble_eq_true rfl) fl_X8_122 rfl rfl dX8_event_33 ?_
        refine s_iload_n B dX8_event_36 rfl 2 rfl ?_
        refine s_iload_n B dX8_event_37 rfl 3 rfl ?_
        refine s_iastN (ws' := [_, _, _, _, _, _, _, _, _, _, _, _, _, _]) B 9 0 rfl rfl rfl dX8_event_38 (by omega) (by decide) ?_
        refine s_iload_n B dX8_event_39 rfl 0 rfl ?_
        refine s_iret B hQ hr dX8_event_40 rfl ?_
        exact ⟨(upd ev k_3 x0), (cg_event_ok (G := (n, kd, ka, ho, fa, si, kn, aw, ev, cr, tr, lw, td, z)) (by omega) ⟨h8, Int32.not_lt.mpr h14⟩), rfl⟩
      · refine s_iconst B dX8_event_17 ic_m1 ?_
        refine s_iret B hQ hr dX8_event_18 rfl ?_
        exact ⟨ev, (cg_event_no (G := (n, kd, ka, ho, fa, si, kn, aw, ev, cr, tr, lw, td, z)) (by first | exact Or.inl (by assumption) | exact Or.inr (fun q => q.1 (by assumption)) | exact Or.inr (fun q => absurd (Int32.not_lt.mp q.2) (by assumption)))), rfl⟩
def rmX8_dayOf : Room := { frames := 1, cells := 0, slots := 0, locals := 20 }
theorem hd_X8_dayOf : yX8_dayOf.cls = RX8 ∧ yX8_dayOf.cls ≠ "java/lang/invoke/MethodHandle" ∧ yX8_dayOf.cls ≠ "java/lang/invoke/VarHandle" ∧ (parseMethodDescriptor yX8_dayOf.desc).map (fun d => d.parameters.length) = some 2 := by decide +kernel
set_option maxHeartbeats 4000000 in
set_option maxRecDepth 100000 in
theorem c_X8_dayOf (l : Launch) (D : va_G) (g : Nat → ClassId) (bo : Nat) (an : Nat → Nat) (ak : Nat → Nat) (bT : Nat) (hT : Nat) (ar : Nat → Nat) (bS : Nat) (bV : Nat) (th : Nat → Nat) (ik : Int32) (n : Nat) (td : Nat) (z : Int32) (kd : Nat → Int32) (ka : Nat → Int32) (ho : Nat → Int32) (fa : Nat → Int32) (si : Nat → Int32) (kn : Nat → Int32) (aw : Nat → Int32) (ev : Nat → Int32) (cr : Nat → Int32) (tr : Nat → Int32) (lw : Nat → Int32) (q : Nat → Int32) (c0 : Int32) (w0 : Int32)  (hb_n : n ≤ 8) (hb_td : td ≤ 40) : Ci l yX8_dayOf (WW yX8_dayOf cX8_dayOf 3 (some FieldType.int)) rmX8_dayOf D vwCl (TY g) [.ref bo, .int c0, .int w0] [(bo, .inr (8, [.ref (an 0), .ref (ak 0), .int ik, .ref (bT), .ref (hT), .ref (ar 0), .ref (bS), .ref (bV), .ref (th 0)])), (an 0, .inr (2, [.ref (an 1), .ref (an 2), .ref (an 3), .ref (an 4), .ref (an 5), .ref (an 6), .ref (an 7), .int (nI n), .ref (an 8), .ref (an 9), .ref (an 10), .ref (an 11), .int (nI td), .int z, .ref (an 12)])), (an 1, .inl (g 0, 8, .inl kd)), (an 2, .inl (g 0, 8, .inl ka)), (an 3, .inl (g 0, 8, .inl ho)), (an 4, .inl (g 0, 8, .inl fa)), (an 5, .inl (g 0, 8, .inl si)), (an 6, .inl (g 0, 8, .inl kn)), (an 7, .inl (g 0, 8, .inl aw)), (an 8, .inl (g 0, 40, .inl ev)), (an 9, .inl (g 0, 40, .inl cr)), (an 10, .inl (g 0, 40, .inl tr)), (an 11, .inl (g 0, 4, .inl lw)), (an 12, .inr (0, [.int (q 0), .int (q 1), .int (q 2), .int (q 3), .int (q 4), .int (q 5), .int (q 6), .int (q 7), .int (q 8)]))] (fun r u => (r = aDayOf c0 w0 (n, kd, ka, ho, fa, si, kn, aw, ev, cr, tr, lw, td, z)) ∧ u = [(bo, .inr (8, [.ref (an 0), .ref (ak 0), .int ik, .ref (bT), .ref (hT), .ref (ar 0), .ref (bS), .ref (bV), .ref (th 0)])), (an 0, .inr (2, [.ref (an 1), .ref (an 2), .ref (an 3), .ref (an 4), .ref (an 5), .ref (an 6), .ref (an 7), .int (nI n), .ref (an 8), .ref (an 9), .ref (an 10), .ref (an 11), .int (nI td), .int z, .ref (an 12)])), (an 1, .inl (g 0, 8, .inl kd)), (an 2, .inl (g 0, 8, .inl ka)), (an 3, .inl (g 0, 8, .inl ho)), (an 4, .inl (g 0, 8, .inl fa)), (an 5, .inl (g 0, 8, .inl si)), (an 6, .inl (g 0, 8, .inl kn)), (an 7, .inl (g 0, 8, .inl aw)), (an 8, .inl (g 0, 40, .inl ev)), (an 9, .inl (g 0, 40, .inl cr)), (an 10, .inl (g 0, 40, .inl tr)), (an 11, .inl (g 0, 4, .inl lw)), (an 12, .inr (0, [.int (q 0), .int (q 1), .int (q 2), .int (q 3), .int (q 4), .int (q 5), .int (q 6), .int (q 7), .int (q 8)]))]) := by
  refine ci_in (by decide) (Nat.le_of_ble_eq_true rfl) (a0 := [bo, an 0, an 1, an 2, an 3, an 4, an 5, an 6, an 7, an 8, an 9, an 10, an 11, an 12]) rfl (fun p e s m args below meth c A Q hQ B hr hsc => ?_)
  refine s_iload_n B dX8_dayOf_0 rfl 1 rfl ?_
  refine s_callSi B hsc (c_X8_isDay l D g c0) (gw_S ml_X8_119 sm_yX8_isDay ini_RX8 co_yX8_isDay) hd_X8_isDay rfl rfl ⟨(Nat.le_of_ble_eq_true rfl), (Nat.le_of_ble_eq_true rfl)⟩ [] [0, 1, 2, 3, 4] rfl rfl rfl rfl rfl (Nat.le_of_ble_eq_true rfl) dX8_dayOf_1 (fun r_1 u_2 hpo => ?_)
  obtain ⟨rfl, rfl⟩ := hpo
  refine s_st (st' := [.int (if ¬ c0 < 0 ∧ c0 < 40 then 1 else 0)]) rfl ?_
  refine s_ws (ws' := [(bo, .inr (8, [.ref (an 0), .ref (ak 0), .int ik, .ref (bT), .ref (hT), .ref (ar 0), .ref (bS), .ref (bV), .ref (th 0)])), (an 0, .inr (2, [.ref (an 1), .ref (an 2), .ref (an 3), .ref (an 4), .ref (an 5), .ref (an 6), .ref (an 7), .int (nI n), .ref (an 8), .ref (an 9), .ref (an 10), .ref (an 11), .int (nI td), .int z, .ref (an 12)])), (an 1, .inl (g 0, 8, .inl kd)), (an 2, .inl (g 0, 8, .inl ka)), (an 3, .inl (g 0, 8, .inl ho)), (an 4, .inl (g 0, 8, .inl fa)), (an 5, .inl (g 0, 8, .inl si)), (an 6, .inl (g 0, 8, .inl kn)), (an 7, .inl (g 0, 8, .inl aw)), (an 8, .inl (g 0, 40, .inl ev)), (an 9, .inl (g 0, 40, .inl cr)), (an 10, .inl (g 0, 40, .inl tr)), (an 11, .inl (g 0, 4, .inl lw)), (an 12, .inr (0, [.int (q 0), .int (q 1), .int (q 2), .int (q 3), .int (q 4), .int (q 5), .int (q 6), .int (q 7), .int (q 8)]))]) rfl ?_
  refine s_bif_ne (tgt := 9) B dX8_dayOf_4 rfl (fun h4 => ?_) (fun h4 => ?_)
  · obtain ⟨k_3, hk_4, rfl⟩ := nat_lt2 (N := 40) h4.1 h4.2 (by omega)
    refine s_iload_n B dX8_dayOf_9 rfl 2 rfl ?_
    by_cases k10_0 : w0 = 0
    · refine s_tableIn (off := 30) (tgt := 40) B dX8_dayOf_10 (by rw [k10_0]; decide) (by rw [k10_0]; decide) (by rw [k10_0]; rfl) rfl ?_
      refine s_aload_n B dX8_dayOf_40 rfl 0 rfl ?_
      refine s_get (T := TX8) B inX8 0 rfl rfl 0 (Nat.le_of_ble_eq_true rfl) fl_X8_10 rfl rfl dX8_dayOf_41 ?_
      refine s_get (T := TX2) B inX2 1 rfl rfl 8 (Nat.le_of_ble_eq_true rfl) fl_X8_122 rfl rfl dX8_dayOf_44 ?_
      refine s_iload_n B dX8_dayOf_47 rfl 1 rfl ?_
      refine s_ialdN B 9 0 rfl rfl dX8_dayOf_48 (by omega) (by decide) ?_
      refine s_iret B hQ hr dX8_dayOf_49 rfl ?_
      exact ⟨(cg_dayOf_ok (G := (n, kd, ka, ho, fa, si, kn, aw, ev, cr, tr, lw, td, z)) (by omega) (by clear hQ B hr hsc; grind)), rfl⟩
    · by_cases k10_1 : w0 = 1
      · refine s_tableIn (off := 40) (tgt := 50) B dX8_dayOf_10 (by rw [k10_1]; decide) (by rw [k10_1]; decide) (by rw [k10_1]; rfl) rfl ?_
        refine s_iload_n B dX8_dayOf_50 rfl 1 rfl ?_
        refine s_iconst B dX8_dayOf_51 ic_5 ?_
        refine s_irem B dX8_dayOf_52 (by decide) ?_
        refine s_iret B hQ hr dX8_dayOf_53 rfl ?_
        exact ⟨(cg_dayOf_ok (G := (n, kd, ka, ho, fa, si, kn, aw, ev, cr, tr, lw, td, z)) (by omega) (by clear hQ B hr hsc; grind)), rfl⟩
      · by_cases k10_2 : w0 = 2
        · refine s_tableIn (off := 44) (tgt := 54) B dX8_dayOf_10 (by rw [k10_2]; decide) (by rw [k10_2]; decide) (by rw [k10_2]; rfl) rfl ?_
          refine s_aload_n B dX8_dayOf_54 rfl 0 rfl ?_
          refine s_get (T := TX8) B inX8 0 rfl rfl 0 (Nat.le_of_ble_eq_true rfl) fl_X8_10 rfl rfl dX8_dayOf_55 ?_
          refine s_get (T := TX2) B inX2 1 rfl rfl 9 (Nat.le_of_ble_eq_true rfl) fl_X8_125 rfl rfl dX8_dayOf_58 ?_
          refine s_iload_n B dX8_dayOf_61 rfl 1 rfl ?_
          refine s_ialdN B 10 0 rfl rfl dX8_dayOf_62 (by omega) (by decide) ?_
          refine s_iret B hQ hr dX8_dayOf_63 rfl ?_
          exact ⟨(cg_dayOf_ok (G := (n, kd, ka, ho, fa, si, kn, aw, ev, cr, tr, lw, td, z)) (by omega) (by clear hQ B hr hsc; grind)), rfl⟩
        · by_cases k10_3 : w0 = 3
          · refine s_tableIn (off := 54) (tgt := 64) B dX8_dayOf_10 (by rw [k10_3]; decide) (by rw [k10_3]; decide) (by rw [k10_3]; rfl) rfl ?_
            refine s_aload_n B dX8_dayOf_64 rfl 0 rfl ?_
            refine s_get (T := TX8) B inX8 0 rfl rfl 0 (Nat.le_of_ble_eq_true rfl) fl_X8_10 rfl rfl dX8_dayOf_65 ?_
            refine s_get (T := TX2) B inX2 1 rfl rfl 10 (Nat.le_of_ble_eq_true rfl) fl_X8_128 rfl rfl dX8_dayOf_68 ?_
            refine s_iload_n B dX8_dayOf_71 rfl 1 rfl ?_
            refine s_ialdN B 11 0 rfl rfl dX8_dayOf_72 (by omega) (by decide) ?_
            refine s_iret B hQ hr dX8_dayOf_73 rfl ?_
            exact ⟨(cg_dayOf_ok (G := (n, kd, ka, ho, fa, si, kn, aw, ev, cr, tr, lw, td, z)) (by omega) (by clear hQ B hr hsc; grind)), rfl⟩
          · refine s_tableOut (tgt := 74) B dX8_dayOf_10 (by have q0 := lv_neT k10_0 (show (0 : Int32).toInt = 0 from by decide); have q1 := lv_neT k10_1 (show (1 : Int32).toInt = 1 from by decide); have q2 := lv_neT k10_2 (show (2 : Int32).toInt = 2 from by decide); have q3 := lv_neT k10_3 (show (3 : Int32).toInt = 3 from by decide); omega) rfl ?_
            refine s_iconst B dX8_dayOf_74 ic_m1 ?_
            refine s_iret B hQ hr dX8_dayOf_75 rfl ?_
            exact ⟨(cg_dayOf_ok (G := (n, kd, ka, ho, fa, si, kn, aw, ev, cr, tr, lw, td, z)) (by omega) (by clear hQ B hr hsc; grind)), rfl⟩
  · refine s_iconst B dX8_dayOf_7 ic_m1 ?_
    refine s_iret B hQ hr dX8_dayOf_8 rfl ?_
    exact ⟨(cg_dayOf_no (G := (n, kd, ka, ho, fa, si, kn, aw, ev, cr, tr, lw, td, z)) h4), rfl⟩
def rmX8_set : Room := { frames := 0, cells := 0, slots := 0, locals := 0 }
theorem hd_X8_set : yX8_set.cls = RX8 ∧ yX8_set.cls ≠ "java/lang/invoke/MethodHandle" ∧ yX8_set.cls ≠ "java/lang/invoke/VarHandle" ∧ (parseMethodDescriptor yX8_set.desc).map (fun d => d.parameters.length) = some 2 := by decide +kernel
set_option maxHeartbeats 4000000 in
set_option maxRecDepth 100000 in
theorem c_X8_set (l : Launch) (D : va_G) (g : Nat → ClassId) (bo : Nat) (an : Nat → Nat) (ak : Nat → Nat) (bT : Nat) (hT : Nat) (ar : Nat → Nat) (bS : Nat) (bV : Nat) (th : Nat → Nat) (ik : Int32) (n : Nat) (td : Nat) (z : Int32) (kd : Nat → Int32) (ka : Nat → Int32) (ho : Nat → Int32) (fa : Nat → Int32) (si : Nat → Int32) (kn : Nat → Int32) (aw : Nat → Int32) (ev : Nat → Int32) (cr : Nat → Int32) (tr : Nat → Int32) (lw : Nat → Int32) (q : Nat → Int32) (c0 : Int32) (x0 : Int32)  (hb_n : n ≤ 8) (hb_td : td ≤ 40) : Ci l yX8_set (WW yX8_set cX8_set 4 (some FieldType.int)) rmX8_set D vwCl (TY g) [.ref bo, .int c0, .int x0] [(bo, .inr (8, [.ref (an 0), .ref (ak 0), .int ik, .ref (bT), .ref (hT), .ref (ar 0), .ref (bS), .ref (bV), .ref (th 0)])), (an 0, .inr (2, [.ref (an 1), .ref (an 2), .ref (an 3), .ref (an 4), .ref (an 5), .ref (an 6), .ref (an 7), .int (nI n), .ref (an 8), .ref (an 9), .ref (an 10), .ref (an 11), .int (nI td), .int z, .ref (an 12)])), (an 1, .inl (g 0, 8, .inl kd)), (an 2, .inl (g 0, 8, .inl ka)), (an 3, .inl (g 0, 8, .inl ho)), (an 4, .inl (g 0, 8, .inl fa)), (an 5, .inl (g 0, 8, .inl si)), (an 6, .inl (g 0, 8, .inl kn)), (an 7, .inl (g 0, 8, .inl aw)), (an 8, .inl (g 0, 40, .inl ev)), (an 9, .inl (g 0, 40, .inl cr)), (an 10, .inl (g 0, 40, .inl tr)), (an 11, .inl (g 0, 4, .inl lw)), (an 12, .inr (0, [.int (q 0), .int (q 1), .int (q 2), .int (q 3), .int (q 4), .int (q 5), .int (q 6), .int (q 7), .int (q 8)]))] (fun r u => ∃ (lw' : Nat → Int32), (((n, kd, ka, ho, fa, si, kn, aw, ev, cr, tr, lw', td, z) : MG) = gSet c0 x0 (n, kd, ka, ho, fa, si, kn, aw, ev, cr, tr, lw, td, z) ∧ r = aSet c0 x0 (n, kd, ka, ho, fa, si, kn, aw, ev, cr, tr, lw, td, z)) ∧ u = [(bo, .inr (8, [.ref (an 0), .ref (ak 0), .int ik, .ref (bT), .ref (hT), .ref (ar 0), .ref (bS), .ref (bV), .ref (th 0)])), (an 0, .inr (2, [.ref (an 1), .ref (an 2), .ref (an 3), .ref (an 4), .ref (an 5), .ref (an 6), .ref (an 7), .int (nI n), .ref (an 8), .ref (an 9), .ref (an 10), .ref (an 11), .int (nI td), .int z, .ref (an 12)])), (an 1, .inl (g 0, 8, .inl kd)), (an 2, .inl (g 0, 8, .inl ka)), (an 3, .inl (g 0, 8, .inl ho)), (an 4, .inl (g 0, 8, .inl fa)), (an 5, .inl (g 0, 8, .inl si)), (an 6, .inl (g 0, 8, .inl kn)), (an 7, .inl (g 0, 8, .inl aw)), (an 8, .inl (g 0, 40, .inl ev)), (an 9, .inl (g 0, 40, .inl cr)), (an 10, .inl (g 0, 40, .inl tr)), (an 11, .inl (g 0, 4, .inl lw')), (an 12, .inr (0, [.int (q 0), .int (q 1), .int (q 2), .int (q 3), .int (q 4), .int (q 5), .int (q 6), .int (q 7), .int (q 8)]))]) := by
  refine ci_in (by decide) (Nat.le_of_ble_eq_true rfl) (a0 := [bo, an 0, an 1, an 2, an 3, an 4, an 5, an 6, an 7, an 8, an 9, an 10, an 11, an 12]) rfl (fun p e s m args below meth c A Q hQ B hr hsc => ?_)
  refine s_iload_n B dX8_set_0 rfl 1 rfl ?_
  refine s_if_lt (tgt := 27) B dX8_set_1 rfl (fun h1 => ?_) (fun h1 => ?_)
  · refine s_iconst B dX8_set_27 ic_m1 ?_
    refine s_iret B hQ hr dX8_set_28 rfl ?_
    exact ⟨lw, (cg_set_no (G := (n, kd, ka, ho, fa, si, kn, aw, ev, cr, tr, lw, td, z)) (by first | exact (fun q => q.1.1 (by assumption)) | exact (fun q => absurd q.1.2 (Int32.not_lt.mpr (by assumption))) | exact (okL_lo (by omega) (by assumption)) | exact (okL_hi (by omega) (by assumption)))), rfl⟩
  · refine s_iload_n B dX8_set_4 rfl 1 rfl ?_
    refine s_iconst B dX8_set_5 ic_4 ?_
    refine s_icmp_ge (tgt := 27) B dX8_set_6 rfl (fun h6 => ?_) (fun h6 => ?_)
    · refine s_iconst B dX8_set_27 ic_m1 ?_
      refine s_iret B hQ hr dX8_set_28 rfl ?_
      exact ⟨lw, (cg_set_no (G := (n, kd, ka, ho, fa, si, kn, aw, ev, cr, tr, lw, td, z)) (by first | exact (fun q => q.1.1 (by assumption)) | exact (fun q => absurd q.1.2 (Int32.not_lt.mpr (by assumption))) | exact (okL_lo (by omega) (by assumption)) | exact (okL_hi (by omega) (by assumption)))), rfl⟩
    · obtain ⟨k_1, hk_2, rfl⟩ : ∃ k : Nat, k ≤ 3 ∧ c0 = nI k := nat_le (N := 3) (by clear hQ B hr hsc; grind) (show ¬ (3 : Int32) < c0 from (by clear hQ B hr hsc; grind)) (by first | decide | omega)
      refine s_iload_n B dX8_set_9 rfl 2 rfl ?_
      refine s_gets B hsc.2.1 fl_X8_131 dX8_set_10 (fun t10 hT10 => ?_)
      refine s_iload_n B dX8_set_13 rfl 1 rfl ?_
      refine s_tiN B hT10 dX8_set_14 (by omega) (by decide) ?_
      refine s_icmp_lt (tgt := 27) B dX8_set_15 rfl (fun h15 => ?_) (fun h15 => ?_)
      · refine s_iconst B dX8_set_27 ic_m1 ?_
        refine s_iret B hQ hr dX8_set_28 rfl ?_
        exact ⟨lw, (cg_set_no (G := (n, kd, ka, ho, fa, si, kn, aw, ev, cr, tr, lw, td, z)) (by first | exact (fun q => q.1.1 (by assumption)) | exact (fun q => absurd q.1.2 (Int32.not_lt.mpr (by assumption))) | exact (okL_lo (by omega) (by assumption)) | exact (okL_hi (by omega) (by assumption)))), rfl⟩
      · refine s_iload_n B dX8_set_18 rfl 2 rfl ?_
        refine s_gets B hsc.2.2.1 fl_X8_134 dX8_set_19 (fun t19 hT19 => ?_)
        refine s_iload_n B dX8_set_22 rfl 1 rfl ?_
        refine s_tiN B hT19 dX8_set_23 (by omega) (by decide) ?_
        refine s_icmp_le (tgt := 29) B dX8_set_24 rfl (fun h24 => ?_) (fun h24 => ?_)
        · refine s_aload_n B dX8_set_29 rfl 0 rfl ?_
          refine s_get (T := TX8) B inX8 0 rfl rfl 0 (Nat.le_of_ble_eq_true rfl) fl_X8_10 rfl rfl dX8_set_30 ?_
          refine s_get (T := TX2) B inX2 1 rfl rfl 11 (Nat.le_of_ble_eq_true rfl) fl_X8_137 rfl rfl dX8_set_33 ?_
          refine s_iload_n B dX8_set_36 rfl 1 rfl ?_
          refine s_ialdN B 12 0 rfl rfl dX8_set_37 (by omega) (by decide) ?_
          refine s_istore_n (lv' := [(3, _), (0, _), (1, _), (2, _)]) B dX8_set_38 rfl (Nat.le_of_ble_eq_true rfl) rfl ?_
          refine s_aload_n B dX8_set_39 rfl 1 rfl ?_
          refine s_get (T := TX8) B inX8 0 rfl rfl 0 (Nat.le_of_ble_eq_true rfl) fl_X8_10 rfl rfl dX8_set_40 ?_
          refine s_get (T := TX2) B inX2 1 rfl rfl 11 (Nat.le_of_ble_eq_true rfl) fl_X8_137 rfl rfl dX8_set_43 ?_
          refine s_iload_n B dX8_set_46 rfl 2 rfl ?_
          refine s_iload_n B dX8_set_47 rfl 3 rfl ?_
          refine s_iastN (ws' := [_, _, _, _, _, _, _, _, _, _, _, _, _, _]) B 12 0 rfl rfl rfl dX8_set_48 (by omega) (by decide) ?_
          refine s_iload_n B dX8_set_49 rfl 0 rfl ?_
          refine s_iret B hQ hr dX8_set_50 rfl ?_
          exact ⟨(upd lw k_1 x0), (cg_set_ok (G := (n, kd, ka, ho, fa, si, kn, aw, ev, cr, tr, lw, td, z)) (by omega) (okL_n (by omega) h15 h24)), rfl⟩
        · refine s_iconst B dX8_set_27 ic_m1 ?_
          refine s_iret B hQ hr dX8_set_28 rfl ?_
          exact ⟨lw, (cg_set_no (G := (n, kd, ka, ho, fa, si, kn, aw, ev, cr, tr, lw, td, z)) (by first | exact (fun q => q.1.1 (by assumption)) | exact (fun q => absurd q.1.2 (Int32.not_lt.mpr (by assumption))) | exact (okL_lo (by omega) (by assumption)) | exact (okL_hi (by omega) (by assumption)))), rfl⟩
def rmX8_would : Room := { frames := 2, cells := 0, slots := 0, locals := 45 }
theorem hd_X8_would : yX8_would.cls = RX8 ∧ yX8_would.cls ≠ "java/lang/invoke/MethodHandle" ∧ yX8_would.cls ≠ "java/lang/invoke/VarHandle" ∧ (parseMethodDescriptor yX8_would.desc).map (fun d => d.parameters.length) = some 1 := by decide +kernel
set_option maxHeartbeats 4000000 in
set_option maxRecDepth 100000 in
theorem c_X8_would (l : Launch) (D : va_G) (g : Nat → ClassId) (bo : Nat) (an : Nat → Nat) (ak : Nat → Nat) (bT : Nat) (hT : Nat) (ar : Nat → Nat) (bS : Nat) (bV : Nat) (th : Nat → Nat) (ik : Int32) (n : Nat) (td : Nat) (z : Int32) (kd : Nat → Int32) (ka : Nat → Int32) (ho : Nat → Int32) (fa : Nat → Int32) (si : Nat → Int32) (kn : Nat → Int32) (aw : Nat → Int32) (ev : Nat → Int32) (cr : Nat → Int32) (tr : Nat → Int32) (lw : Nat → Int32) (q : Nat → Int32) (c0 : Int32)  (hb_n : n ≤ 8) (hb_td : td ≤ 40) : Ci l yX8_would (WW yX8_would cX8_would 2 (some FieldType.int)) rmX8_would D vwCl (TY g) [.ref bo, .int c0] [(bo, .inr (8, [.ref (an 0), .ref (ak 0), .int ik, .ref (bT), .ref (hT), .ref (ar 0), .ref (bS), .ref (bV), .ref (th 0)])), (an 0, .inr (2, [.ref (an 1), .ref (an 2), .ref (an 3), .ref (an 4), .ref (an 5), .ref (an 6), .ref (an 7), .int (nI n), .ref (an 8), .ref (an 9), .ref (an 10), .ref (an 11), .int (nI td), .int z, .ref (an 12)])), (an 1, .inl (g 0, 8, .inl kd)), (an 2, .inl (g 0, 8, .inl ka)), (an 3, .inl (g 0, 8, .inl ho)), (an 4, .inl (g 0, 8, .inl fa)), (an 5, .inl (g 0, 8, .inl si)), (an 6, .inl (g 0, 8, .inl kn)), (an 7, .inl (g 0, 8, .inl aw)), (an 8, .inl (g 0, 40, .inl ev)), (an 9, .inl (g 0, 40, .inl cr)), (an 10, .inl (g 0, 40, .inl tr)), (an 11, .inl (g 0, 4, .inl lw)), (an 12, .inr (0, [.int (q 0), .int (q 1), .int (q 2), .int (q 3), .int (q 4), .int (q 5), .int (q 6), .int (q 7), .int (q 8)]))] (fun r u => ∃ (q' : Nat → Int32), (r = aWould c0 (n, kd, ka, ho, fa, si, kn, aw, ev, cr, tr, lw, td, z)) ∧ u = [(bo, .inr (8, [.ref (an 0), .ref (ak 0), .int ik, .ref (bT), .ref (hT), .ref (ar 0), .ref (bS), .ref (bV), .ref (th 0)])), (an 0, .inr (2, [.ref (an 1), .ref (an 2), .ref (an 3), .ref (an 4), .ref (an 5), .ref (an 6), .ref (an 7), .int (nI n), .ref (an 8), .ref (an 9), .ref (an 10), .ref (an 11), .int (nI td), .int z, .ref (an 12)])), (an 1, .inl (g 0, 8, .inl kd)), (an 2, .inl (g 0, 8, .inl ka)), (an 3, .inl (g 0, 8, .inl ho)), (an 4, .inl (g 0, 8, .inl fa)), (an 5, .inl (g 0, 8, .inl si)), (an 6, .inl (g 0, 8, .inl kn)), (an 7, .inl (g 0, 8, .inl aw)), (an 8, .inl (g 0, 40, .inl ev)), (an 9, .inl (g 0, 40, .inl cr)), (an 10, .inl (g 0, 40, .inl tr)), (an 11, .inl (g 0, 4, .inl lw)), (an 12, .inr (0, [.int (q' 0), .int (q' 1), .int (q' 2), .int (q' 3), .int (q' 4), .int (q' 5), .int (q' 6), .int (q' 7), .int (q' 8)]))]) := by
  refine ci_in (by decide) (Nat.le_of_ble_eq_true rfl) (a0 := [bo, an 0, an 1, an 2, an 3, an 4, an 5, an 6, an 7, an 8, an 9, an 10, an 11, an 12]) rfl (fun p e s m args below meth c A Q hQ B hr hsc => ?_)
  refine s_aload_n B dX8_would_0 rfl 0 rfl ?_
  refine s_get (T := TX8) B inX8 0 rfl rfl 0 (Nat.le_of_ble_eq_true rfl) fl_X8_10 rfl rfl dX8_would_1 ?_
  refine s_iload_n B dX8_would_4 rfl 1 rfl ?_
  refine s_callVi B hsc (c_X2_hasChild l D g an kd ka ho fa si kn aw n ev cr tr lw td z q c0) (gw_V ml_X8_102 im_yX2_hasChild se_yX2_hasChild ini_RX2 co_yX2_hasChild) hd_X2_hasChild rfl rfl ⟨(Nat.le_of_ble_eq_true rfl), (Nat.le_of_ble_eq_true rfl)⟩ [1, 2, 3, 4, 5, 6, 7, 8, 9, 10, 11, 12, 13] [0, 1, 2, 3, 4] rfl rfl rfl (ci := 2) (q0 := 0) rfl rfl rfl rfl rfl (Nat.le_of_ble_eq_true rfl) dX8_would_5 (fun r_1 u_2 hpo => ?_)
  obtain ⟨rfl, rfl⟩ := hpo
  refine s_st (st' := [.int (if ¬ c0 < 0 ∧ c0 < nI n then 1 else 0)]) rfl ?_
  refine s_ws (ws' := [(bo, .inr (8, [.ref (an 0), .ref (ak 0), .int ik, .ref (bT), .ref (hT), .ref (ar 0), .ref (bS), .ref (bV), .ref (th 0)])), (an 0, .inr (2, [.ref (an 1), .ref (an 2), .ref (an 3), .ref (an 4), .ref (an 5), .ref (an 6), .ref (an 7), .int (nI n), .ref (an 8), .ref (an 9), .ref (an 10), .ref (an 11), .int (nI td), .int z, .ref (an 12)])), (an 1, .inl (g 0, 8, .inl kd)), (an 2, .inl (g 0, 8, .inl ka)), (an 3, .inl (g 0, 8, .inl ho)), (an 4, .inl (g 0, 8, .inl fa)), (an 5, .inl (g 0, 8, .inl si)), (an 6, .inl (g 0, 8, .inl kn)), (an 7, .inl (g 0, 8, .inl aw)), (an 8, .inl (g 0, 40, .inl ev)), (an 9, .inl (g 0, 40, .inl cr)), (an 10, .inl (g 0, 40, .inl tr)), (an 11, .inl (g 0, 4, .inl lw)), (an 12, .inr (0, [.int (q 0), .int (q 1), .int (q 2), .int (q 3), .int (q 4), .int (q 5), .int (q 6), .int (q 7), .int (q 8)]))]) rfl ?_
  refine s_bif_ne (tgt := 13) B dX8_would_8 rfl (fun h8 => ?_) (fun h8 => ?_)
  · obtain ⟨k_3, hk_4, rfl⟩ := nat_lt2 (N := n) h8.1 h8.2 (by omega)
    refine s_aload_n B dX8_would_13 rfl 0 rfl ?_
    refine s_get (T := TX8) B inX8 0 rfl rfl 0 (Nat.le_of_ble_eq_true rfl) fl_X8_10 rfl rfl dX8_would_14 ?_
    refine s_callVi B hsc (c_X2_isOver l D g an kd ka ho fa si kn aw n ev cr tr lw td z q (by omega)) (gw_V ml_X8_143 im_yX2_isOver se_yX2_isOver ini_RX2 co_yX2_isOver) hd_X2_isOver rfl rfl ⟨(Nat.le_of_ble_eq_true rfl), (Nat.le_of_ble_eq_true rfl)⟩ [1, 2, 3, 4, 5, 6, 7, 8, 9, 10, 11, 12, 13] [0, 1, 2, 3, 4] rfl rfl rfl (ci := 2) (q0 := 0) rfl rfl rfl rfl rfl (Nat.le_of_ble_eq_true rfl) dX8_would_17 (fun r_5 u_6 hpo => ?_)
    obtain ⟨rfl, rfl⟩ := hpo
    refine s_st (st' := [.int (if 40 ≤ td then 1 else 0)]) rfl ?_
    refine s_ws (ws' := [(bo, .inr (8, [.ref (an 0), .ref (ak 0), .int ik, .ref (bT), .ref (hT), .ref (ar 0), .ref (bS), .ref (bV), .ref (th 0)])), (an 0, .inr (2, [.ref (an 1), .ref (an 2), .ref (an 3), .ref (an 4), .ref (an 5), .ref (an 6), .ref (an 7), .int (nI n), .ref (an 8), .ref (an 9), .ref (an 10), .ref (an 11), .int (nI td), .int z, .ref (an 12)])), (an 1, .inl (g 0, 8, .inl kd)), (an 2, .inl (g 0, 8, .inl ka)), (an 3, .inl (g 0, 8, .inl ho)), (an 4, .inl (g 0, 8, .inl fa)), (an 5, .inl (g 0, 8, .inl si)), (an 6, .inl (g 0, 8, .inl kn)), (an 7, .inl (g 0, 8, .inl aw)), (an 8, .inl (g 0, 40, .inl ev)), (an 9, .inl (g 0, 40, .inl cr)), (an 10, .inl (g 0, 40, .inl tr)), (an 11, .inl (g 0, 4, .inl lw)), (an 12, .inr (0, [.int (q 0), .int (q 1), .int (q 2), .int (q 3), .int (q 4), .int (q 5), .int (q 6), .int (q 7), .int (q 8)]))]) rfl ?_
    refine s_bif_eq (tgt := 26) B dX8_would_20 rfl (fun h20 => ?_) (fun h20 => ?_)
    · refine s_aload_n B dX8_would_26 rfl 0 rfl ?_
      refine s_get (T := TX8) B inX8 0 rfl rfl 0 (Nat.le_of_ble_eq_true rfl) fl_X8_10 rfl rfl dX8_would_27 ?_
      refine s_iload_n B dX8_would_30 rfl 1 rfl ?_
      refine s_callVi B hsc (c_X2_isAway l D g an kd ka ho fa si kn aw n ev cr tr lw td z q k_3 (by omega) (by omega) (by omega)) (gw_V ml_X8_147 im_yX2_isAway se_yX2_isAway ini_RX2 co_yX2_isAway) hd_X2_isAway rfl rfl ⟨(Nat.le_of_ble_eq_true rfl), (Nat.le_of_ble_eq_true rfl)⟩ [1, 2, 3, 4, 5, 6, 7, 8, 9, 10, 11, 12, 13] [0, 1, 2, 3, 4] rfl rfl rfl (ci := 2) (q0 := 0) rfl rfl rfl rfl rfl (Nat.le_of_ble_eq_true rfl) dX8_would_31 (fun r_7 u_8 hpo => ?_)
      obtain ⟨rfl, q_9, rfl⟩ := hpo
      refine s_st (st' := [.int (if 40 ≤ td then 0 else if mAway (kd k_3) (ka k_3) (fa k_3) (nI td) (ev td) (decide (0 < si k_3)) (decide (0 < kn k_3)) (aw k_3) (lw 1) = true then 1 else 0)]) rfl ?_
      refine s_ws (ws' := [(bo, .inr (8, [.ref (an 0), .ref (ak 0), .int ik, .ref (bT), .ref (hT), .ref (ar 0), .ref (bS), .ref (bV), .ref (th 0)])), (an 0, .inr (2, [.ref (an 1), .ref (an 2), .ref (an 3), .ref (an 4), .ref (an 5), .ref (an 6), .ref (an 7), .int (nI n), .ref (an 8), .ref (an 9), .ref (an 10), .ref (an 11), .int (nI td), .int z, .ref (an 12)])), (an 1, .inl (g 0, 8, .inl kd)), (an 2, .inl (g 0, 8, .inl ka)), (an 3, .inl (g 0, 8, .inl ho)), (an 4, .inl (g 0, 8, .inl fa)), (an 5, .inl (g 0, 8, .inl si)), (an 6, .inl (g 0, 8, .inl kn)), (an 7, .inl (g 0, 8, .inl aw)), (an 8, .inl (g 0, 40, .inl ev)), (an 9, .inl (g 0, 40, .inl cr)), (an 10, .inl (g 0, 40, .inl tr)), (an 11, .inl (g 0, 4, .inl lw)), (an 12, .inr (0, [.int (q_9 0), .int (q_9 1), .int (q_9 2), .int (q_9 3), .int (q_9 4), .int (q_9 5), .int (q_9 6), .int (q_9 7), .int (q_9 8)]))]) rfl ?_
      refine s_if_eq (tgt := 41) B dX8_would_34 rfl (fun h34 => ?_) (fun h34 => ?_)
      · refine s_iconst B dX8_would_41 ic_0 ?_
        refine s_iret B hQ hr dX8_would_42 rfl ?_
        exact ⟨q_9, ((would_0 h20 h34).trans (cg_would_ok (G := (n, kd, ka, ho, fa, si, kn, aw, ev, cr, tr, lw, td, z)) (by omega) hb_n h20)), rfl⟩
      · refine s_iconst B dX8_would_37 ic_1 ?_
        refine s_goto (tgt := 42) B dX8_would_38 rfl ?_
        refine s_iret B hQ hr dX8_would_42 rfl ?_
        exact ⟨q_9, ((would_1 h20 h34).trans (cg_would_ok (G := (n, kd, ka, ho, fa, si, kn, aw, ev, cr, tr, lw, td, z)) (by omega) hb_n h20)), rfl⟩
    · refine s_bipush B dX8_would_23 bp_m4 ?_
      refine s_iret B hQ hr dX8_would_25 rfl ?_
      exact ⟨q, (cg_would_st (G := (n, kd, ka, ho, fa, si, kn, aw, ev, cr, tr, lw, td, z)) (by omega) hb_n h20), rfl⟩
  · refine s_iconst B dX8_would_11 ic_m1 ?_
    refine s_iret B hQ hr dX8_would_12 rfl ?_
    exact ⟨q, (cg_would_no (G := (n, kd, ka, ho, fa, si, kn, aw, ev, cr, tr, lw, td, z)) h8), rfl⟩
def rmX8_days : Room := { frames := 4, cells := 0, slots := 0, locals := 90 }
theorem hd_X8_days : yX8_days.cls = RX8 ∧ yX8_days.cls ≠ "java/lang/invoke/MethodHandle" ∧ yX8_days.cls ≠ "java/lang/invoke/VarHandle" ∧ (parseMethodDescriptor yX8_days.desc).map (fun d => d.parameters.length) = some 1 := by decide +kernel
set_option maxHeartbeats 4000000 in
set_option maxRecDepth 100000 in
theorem c_X8_days (l : Launch) (D : va_G) (g : Nat → ClassId) (bo : Nat) (an : Nat → Nat) (ak : Nat → Nat) (bT : Nat) (hT : Nat) (ar : Nat → Nat) (bS : Nat) (bV : Nat) (th : Nat → Nat) (ik : Int32) (n : Nat) (td : Nat) (z : Int32) (kd : Nat → Int32) (ka : Nat → Int32) (ho : Nat → Int32) (fa : Nat → Int32) (si : Nat → Int32) (kn : Nat → Int32) (aw : Nat → Int32) (ev : Nat → Int32) (cr : Nat → Int32) (tr : Nat → Int32) (lw : Nat → Int32) (q : Nat → Int32) (n0 : Int32)  (hb_n : n ≤ 8) (hb_td : td ≤ 40) : Ci l yX8_days (WW yX8_days cX8_days 3 (some FieldType.int)) rmX8_days D vwCl (TY g) [.ref bo, .int n0] [(bo, .inr (8, [.ref (an 0), .ref (ak 0), .int ik, .ref (bT), .ref (hT), .ref (ar 0), .ref (bS), .ref (bV), .ref (th 0)])), (an 0, .inr (2, [.ref (an 1), .ref (an 2), .ref (an 3), .ref (an 4), .ref (an 5), .ref (an 6), .ref (an 7), .int (nI n), .ref (an 8), .ref (an 9), .ref (an 10), .ref (an 11), .int (nI td), .int z, .ref (an 12)])), (an 1, .inl (g 0, 8, .inl kd)), (an 2, .inl (g 0, 8, .inl ka)), (an 3, .inl (g 0, 8, .inl ho)), (an 4, .inl (g 0, 8, .inl fa)), (an 5, .inl (g 0, 8, .inl si)), (an 6, .inl (g 0, 8, .inl kn)), (an 7, .inl (g 0, 8, .inl aw)), (an 8, .inl (g 0, 40, .inl ev)), (an 9, .inl (g 0, 40, .inl cr)), (an 10, .inl (g 0, 40, .inl tr)), (an 11, .inl (g 0, 4, .inl lw)), (an 12, .inr (0, [.int (q 0), .int (q 1), .int (q 2), .int (q 3), .int (q 4), .int (q 5), .int (q 6), .int (q 7), .int (q 8)]))] (fun r u => ∃ (td' : Nat) (si' : Nat → Int32) (kn' : Nat → Int32) (aw' : Nat → Int32) (cr' : Nat → Int32) (tr' : Nat → Int32) (q' : Nat → Int32), (td' ≤ 40) ∧ (((n, kd, ka, ho, fa, si', kn', aw', ev, cr', tr', lw, td', z) : MG) = gDays n0 (n, kd, ka, ho, fa, si, kn, aw, ev, cr, tr, lw, td, z) ∧ r = mDaysR td n0) ∧ u = [(bo, .inr (8, [.ref (an 0), .ref (ak 0), .int ik, .ref (bT), .ref (hT), .ref (ar 0), .ref (bS), .ref (bV), .ref (th 0)])), (an 0, .inr (2, [.ref (an 1), .ref (an 2), .ref (an 3), .ref (an 4), .ref (an 5), .ref (an 6), .ref (an 7), .int (nI n), .ref (an 8), .ref (an 9), .ref (an 10), .ref (an 11), .int (nI td'), .int z, .ref (an 12)])), (an 1, .inl (g 0, 8, .inl kd)), (an 2, .inl (g 0, 8, .inl ka)), (an 3, .inl (g 0, 8, .inl ho)), (an 4, .inl (g 0, 8, .inl fa)), (an 5, .inl (g 0, 8, .inl si')), (an 6, .inl (g 0, 8, .inl kn')), (an 7, .inl (g 0, 8, .inl aw')), (an 8, .inl (g 0, 40, .inl ev)), (an 9, .inl (g 0, 40, .inl cr')), (an 10, .inl (g 0, 40, .inl tr')), (an 11, .inl (g 0, 4, .inl lw)), (an 12, .inr (0, [.int (q' 0), .int (q' 1), .int (q' 2), .int (q' 3), .int (q' 4), .int (q' 5), .int (q' 6), .int (q' 7), .int (q' 8)]))]) := by
  refine ci_in (by decide) (Nat.le_of_ble_eq_true rfl) (a0 := [bo, an 0, an 1, an 2, an 3, an 4, an 5, an 6, an 7, an 8, an 9, an 10, an 11, an 12]) rfl (fun p e s m args below meth c A Q hQ B hr hsc => ?_)
  refine s_iload_n B dX8_days_0 rfl 1 rfl ?_
  refine s_if_lt (tgt := 10) B dX8_days_1 rfl (fun h1 => ?_) (fun h1 => ?_)
  · refine s_iconst B dX8_days_10 ic_m1 ?_
    refine s_iret B hQ hr dX8_days_11 rfl ?_
    exact ⟨td, si, kn, aw, cr, tr, q, by omega, (cg_days_no (G := (n, kd, ka, ho, fa, si, kn, aw, ev, cr, tr, lw, td, z)) (by first | exact Or.inl (by assumption) | exact Or.inr (Int32.not_le.mp (by assumption)) | exact Or.inr (by assumption))), rfl⟩
  · refine s_iload_n B dX8_days_4 rfl 1 rfl ?_
    refine s_bipush B dX8_days_5 bp_40 ?_
    refine s_icmp_le (tgt := 12) B dX8_days_7 rfl (fun h7 => ?_) (fun h7 => ?_)
    · obtain ⟨k_1, hk_2, rfl⟩ : ∃ k : Nat, k ≤ 40 ∧ n0 = nI k := nat_le (N := 40) (by clear hQ B hr hsc; grind) (show ¬ (40 : Int32) < n0 from (by clear hQ B hr hsc; grind)) (by first | decide | omega)
      refine s_iconst B dX8_days_12 ic_0 ?_
      have L14 : ∀ (jj14 : Nat) (k_3 : Nat) (td_5 : Nat) (si_7 : Nat → Int32) (kn_8 : Nat → Int32) (aw_9 : Nat → Int32) (cr_10 : Nat → Int32) (tr_11 : Nat → Int32) (q_12 : Nat → Int32), 40 - k_3 < jj14 → (n ≤ 8) → (td ≤ 40) → (¬ (nI k_1) < 0) → ((nI k_1) ≤ 40) → (k_1 ≤ 40) → (k_3 ≤ 40) → (td_5 ≤ 40) → (td_5 = td + k_3 ∧ td_5 ≤ 40 ∧ k_3 ≤ k_1) → (((n, kd, ka, ho, fa, si_7, kn_8, aw_9, ev, cr_10, tr_11, lw, td_5, z) : MG) = gGo k_3 (n, kd, ka, ho, fa, si, kn, aw, ev, cr, tr, lw, td, z)) → Sx p l e rmX8_days s m args below meth c D vwCl A 3 Q 14 [(0, .ref bo), (1, .int (nI k_1)), (2, .int (nI k_3))] [] [(bo, .inr (8, [.ref (an 0), .ref (ak 0), .int ik, .ref (bT), .ref (hT), .ref (ar 0), .ref (bS), .ref (bV), .ref (th 0)])), (an 0, .inr (2, [.ref (an 1), .ref (an 2), .ref (an 3), .ref (an 4), .ref (an 5), .ref (an 6), .ref (an 7), .int (nI n), .ref (an 8), .ref (an 9), .ref (an 10), .ref (an 11), .int (nI td_5), .int z, .ref (an 12)])), (an 1, .inl (g 0, 8, .inl kd)), (an 2, .inl (g 0, 8, .inl ka)), (an 3, .inl (g 0, 8, .inl ho)), (an 4, .inl (g 0, 8, .inl fa)), (an 5, .inl (g 0, 8, .inl si_7)), (an 6, .inl (g 0, 8, .inl kn_8)), (an 7, .inl (g 0, 8, .inl aw_9)), (an 8, .inl (g 0, 40, .inl ev)), (an 9, .inl (g 0, 40, .inl cr_10)), (an 10, .inl (g 0, 40, .inl tr_11)), (an 11, .inl (g 0, 4, .inl lw)), (an 12, .inr (0, [.int (q_12 0), .int (q_12 1), .int (q_12 2), .int (q_12 3), .int (q_12 4), .int (q_12 5), .int (q_12 6), .int (q_12 7), .int (q_12 8)]))] := by
        intro jj14
        induction jj14 with
        | zero => intro k_3 td_5 si_7 kn_8 aw_9 cr_10 tr_11 q_12 hj; exact absurd hj (Nat.not_lt_zero _)
        | succ jj14 ih14 =>
          intro k_3 td_5 si_7 kn_8 aw_9 cr_10 tr_11 q_12 hj14 hb_n hb_td h1 h7 hk_2 h_4 h_6 hj_13 hT_14
          have M43 : (n ≤ 8) → (td ≤ 40) → (¬ (nI k_1) < 0) → ((nI k_1) ≤ 40) → (k_1 ≤ 40) → (k_3 ≤ 40) → (td_5 ≤ 40) → (td_5 = td + k_3 ∧ td_5 ≤ 40 ∧ k_3 ≤ k_1) → (((n, kd, ka, ho, fa, si_7, kn_8, aw_9, ev, cr_10, tr_11, lw, td_5, z) : MG) = gGo k_3 (n, kd, ka, ho, fa, si, kn, aw, ev, cr, tr, lw, td, z)) → (k_1 ≤ k_3 ∨ 40 ≤ td_5) → Sx p l e rmX8_days s m args below meth c D vwCl A 3 Q 43 [(0, .ref bo)] [] [(bo, .inr (8, [.ref (an 0), .ref (ak 0), .int ik, .ref (bT), .ref (hT), .ref (ar 0), .ref (bS), .ref (bV), .ref (th 0)])), (an 0, .inr (2, [.ref (an 1), .ref (an 2), .ref (an 3), .ref (an 4), .ref (an 5), .ref (an 6), .ref (an 7), .int (nI n), .ref (an 8), .ref (an 9), .ref (an 10), .ref (an 11), .int (nI td_5), .int z, .ref (an 12)])), (an 1, .inl (g 0, 8, .inl kd)), (an 2, .inl (g 0, 8, .inl ka)), (an 3, .inl (g 0, 8, .inl ho)), (an 4, .inl (g 0, 8, .inl fa)), (an 5, .inl (g 0, 8, .inl si_7)), (an 6, .inl (g 0, 8, .inl kn_8)), (an 7, .inl (g 0, 8, .inl aw_9)), (an 8, .inl (g 0, 40, .inl ev)), (an 9, .inl (g 0, 40, .inl cr_10)), (an 10, .inl (g 0, 40, .inl tr_11)), (an 11, .inl (g 0, 4, .inl lw)), (an 12, .inr (0, [.int (q_12 0), .int (q_12 1), .int (q_12 2), .int (q_12 3), .int (q_12 4), .int (q_12 5), .int (q_12 6), .int (q_12 7), .int (q_12 8)]))] := by
            intro hb_n hb_td h1 h7 hk_2 h_4 h_6 hj_13 hT_14 hx_20
            refine s_aload_n B dX8_days_43 rfl 0 rfl ?_
            refine s_get (T := TX8) B inX8 0 rfl rfl 0 (Nat.le_of_ble_eq_true rfl) fl_X8_10 rfl rfl dX8_days_44 ?_
            refine s_get (T := TX2) B inX2 1 rfl rfl 12 (Nat.le_of_ble_eq_true rfl) fl_X8_140 rfl rfl dX8_days_47 ?_
            refine s_iret B hQ hr dX8_days_50 rfl ?_
            exact ⟨td_5, si_7, kn_8, aw_9, cr_10, tr_11, q_12, by omega, ⟨cg_days_ok (G := (n, kd, ka, ho, fa, si, kn, aw, ev, cr, tr, lw, td, z)) hT_14 (by omega) hj_13.1 (days_end (by omega) (by omega) hx_20 hj_13.1 (by omega)).1, (days_end (by omega) (by omega) hx_20 hj_13.1 (by omega)).2⟩, rfl⟩
          refine s_iload_n B dX8_days_14 rfl 2 rfl ?_
          refine s_iload_n B dX8_days_15 rfl 1 rfl ?_
          refine s_icmp_ge (tgt := 43) B dX8_days_16 rfl (fun h16 => ?_) (fun h16 => ?_)
          · replace h16 : k_1 ≤ k_3 := (nI_leI (a := k_1) (b := k_3) (by omega) (by omega)).mp h16
            refine s_lv (lv' := [(0, _)]) [0] rfl ?_
            exact M43  hb_n hb_td h1 h7 hk_2 h_4 h_6 hj_13 hT_14 (by first | exact Or.inl (by omega) | exact Or.inr (by omega) | exact Or.inr (by assumption))
          · replace h16 : ¬ k_1 ≤ k_3 := fun hh => h16 ((nI_leI (a := k_1) (b := k_3) (by omega) (by omega)).mpr hh)
            refine s_aload_n B dX8_days_19 rfl 0 rfl ?_
            refine s_get (T := TX8) B inX8 0 rfl rfl 0 (Nat.le_of_ble_eq_true rfl) fl_X8_10 rfl rfl dX8_days_20 ?_
            refine s_callVi B hsc (c_X2_isOver l D g an kd ka ho fa si_7 kn_8 aw_9 n ev cr_10 tr_11 lw td_5 z q_12 (by omega)) (gw_V ml_X8_143 im_yX2_isOver se_yX2_isOver ini_RX2 co_yX2_isOver) hd_X2_isOver rfl rfl ⟨(Nat.le_of_ble_eq_true rfl), (Nat.le_of_ble_eq_true rfl)⟩ [1, 2, 3, 4, 5, 6, 7, 8, 9, 10, 11, 12, 13] [0, 1, 2, 3, 4] rfl rfl rfl (ci := 2) (q0 := 0) rfl rfl rfl rfl rfl (Nat.le_of_ble_eq_true rfl) dX8_days_23 (fun r_15 u_16 hpo => ?_)
            obtain ⟨rfl, rfl⟩ := hpo
            refine s_st (st' := [.int (if 40 ≤ td_5 then 1 else 0)]) rfl ?_
            refine s_ws (ws' := [(bo, .inr (8, [.ref (an 0), .ref (ak 0), .int ik, .ref (bT), .ref (hT), .ref (ar 0), .ref (bS), .ref (bV), .ref (th 0)])), (an 0, .inr (2, [.ref (an 1), .ref (an 2), .ref (an 3), .ref (an 4), .ref (an 5), .ref (an 6), .ref (an 7), .int (nI n), .ref (an 8), .ref (an 9), .ref (an 10), .ref (an 11), .int (nI td_5), .int z, .ref (an 12)])), (an 1, .inl (g 0, 8, .inl kd)), (an 2, .inl (g 0, 8, .inl ka)), (an 3, .inl (g 0, 8, .inl ho)), (an 4, .inl (g 0, 8, .inl fa)), (an 5, .inl (g 0, 8, .inl si_7)), (an 6, .inl (g 0, 8, .inl kn_8)), (an 7, .inl (g 0, 8, .inl aw_9)), (an 8, .inl (g 0, 40, .inl ev)), (an 9, .inl (g 0, 40, .inl cr_10)), (an 10, .inl (g 0, 40, .inl tr_11)), (an 11, .inl (g 0, 4, .inl lw)), (an 12, .inr (0, [.int (q_12 0), .int (q_12 1), .int (q_12 2), .int (q_12 3), .int (q_12 4), .int (q_12 5), .int (q_12 6), .int (q_12 7), .int (q_12 8)]))]) rfl ?_
            refine s_bif_ne (tgt := 43) B dX8_days_26 rfl (fun h26 => ?_) (fun h26 => ?_)
            · refine s_lv (lv' := [(0, _)]) [0] rfl ?_
              exact M43  hb_n hb_td h1 h7 hk_2 h_4 h_6 hj_13 hT_14 (by first | exact Or.inl (by omega) | exact Or.inr (by omega) | exact Or.inr (by assumption))
            · refine s_aload_n B dX8_days_29 rfl 0 rfl ?_
              refine s_get (T := TX8) B inX8 0 rfl rfl 0 (Nat.le_of_ble_eq_true rfl) fl_X8_10 rfl rfl dX8_days_30 ?_
              refine s_callVi B hsc (c_X2_goOneDay l D g an kd ka ho fa si_7 kn_8 aw_9 n ev cr_10 tr_11 lw td_5 z q_12 (by omega) (by omega)) (gw_V ml_X8_150 im_yX2_goOneDay se_yX2_goOneDay ini_RX2 co_yX2_goOneDay) hd_X2_goOneDay rfl rfl ⟨(Nat.le_of_ble_eq_true rfl), (Nat.le_of_ble_eq_true rfl)⟩ [1, 2, 3, 4, 5, 6, 7, 8, 9, 10, 11, 12, 13] [0, 1, 2, 3, 4] rfl rfl rfl (ci := 2) (q0 := 0) rfl rfl rfl rfl rfl (Nat.le_of_ble_eq_true rfl) dX8_days_33 (fun r_17 u_18 hpo => ?_)
              obtain ⟨-, q_19, rfl⟩ := hpo
              refine s_ws (ws' := [(bo, .inr (8, [.ref (an 0), .ref (ak 0), .int ik, .ref (bT), .ref (hT), .ref (ar 0), .ref (bS), .ref (bV), .ref (th 0)])), (an 0, .inr (2, [.ref (an 1), .ref (an 2), .ref (an 3), .ref (an 4), .ref (an 5), .ref (an 6), .ref (an 7), .int (nI n), .ref (an 8), .ref (an 9), .ref (an 10), .ref (an 11), .int (nI (td_5 + 1)), .int z, .ref (an 12)])), (an 1, .inl (g 0, 8, .inl kd)), (an 2, .inl (g 0, 8, .inl ka)), (an 3, .inl (g 0, 8, .inl ho)), (an 4, .inl (g 0, 8, .inl fa)), (an 5, .inl (g 0, 8, .inl (mSi1 kd ho lw si_7 n))), (an 6, .inl (g 0, 8, .inl (mMap mDec kn_8 n))), (an 7, .inl (g 0, 8, .inl (mMap (mAw (mThere kd ka fa si_7 kn_8 aw_9 ev lw td_5 n)) aw_9 n))), (an 8, .inl (g 0, 40, .inl ev)), (an 9, .inl (g 0, 40, .inl (upd cr_10 td_5 (mThere kd ka fa si_7 kn_8 aw_9 ev lw td_5 n)))), (an 10, .inl (g 0, 40, .inl (upd tr_11 td_5 (mThere kd ka fa si_7 kn_8 aw_9 ev lw td_5 n)))), (an 11, .inl (g 0, 4, .inl lw)), (an 12, .inr (0, [.int (q_19 0), .int (q_19 1), .int (q_19 2), .int (q_19 3), .int (q_19 4), .int (q_19 5), .int (q_19 6), .int (q_19 7), .int (q_19 8)]))]) rfl ?_
              refine s_pop B dX8_days_36 rfl ?_
              refine s_iinc (lv' := [(2, _), (0, _), (1, _)]) (k := 2) B dX8_days_37 rfl (ii_n _) (Nat.le_of_ble_eq_true rfl) rfl ?_
              refine s_goto (tgt := 14) B dX8_days_40 rfl ?_
              refine s_lv (lv' := [(0, _), (1, _), (2, _)]) [1, 2, 0] rfl ?_
              exact ih14 (k_3 + 1) (td_5 + 1) (mSi1 kd ho lw si_7 n) (mMap mDec kn_8 n) (mMap (mAw (mThere kd ka fa si_7 kn_8 aw_9 ev lw td_5 n)) aw_9 n) (upd cr_10 td_5 (mThere kd ka fa si_7 kn_8 aw_9 ev lw td_5 n)) (upd tr_11 td_5 (mThere kd ka fa si_7 kn_8 aw_9 ev lw td_5 n)) q_19 (by omega) hb_n hb_td h1 h7 hk_2 (by omega) (by omega) (by omega) (cg_goS (G := (n, kd, ka, ho, fa, si, kn, aw, ev, cr, tr, lw, td, z)) hT_14)
      refine s_istore_n (lv' := [(2, _), (0, _), (1, _)]) B dX8_days_13 rfl (Nat.le_of_ble_eq_true rfl) rfl ?_
      refine s_lv (lv' := [(0, _), (1, _), (2, _)]) [1, 2, 0] rfl ?_
      refine s_lve (lv' := [(0, .ref bo), (1, .int (nI k_1)), (2, .int (nI 0))]) (by first | rfl | (simp only [if_pos, if_neg]; done)) ?_
      exact L14 _ 0 td si kn aw cr tr q (Nat.lt_succ_self _) hb_n hb_td h1 h7 hk_2 (by omega) (by omega) (by omega) (cg_go0 (G := (n, kd, ka, ho, fa, si, kn, aw, ev, cr, tr, lw, td, z)))
    · refine s_iconst B dX8_days_10 ic_m1 ?_
      refine s_iret B hQ hr dX8_days_11 rfl ?_
      exact ⟨td, si, kn, aw, cr, tr, q, by omega, (cg_days_no (G := (n, kd, ka, ho, fa, si, kn, aw, ev, cr, tr, lw, td, z)) (by first | exact Or.inl (by assumption) | exact Or.inr (Int32.not_le.mp (by assumption)) | exact Or.inr (by assumption))), rfl⟩
def rmX8_knock : Room := { frames := 1, cells := 0, slots := 0, locals := 23 }
theorem hd_X8_knock : yX8_knock.cls = RX8 ∧ yX8_knock.cls ≠ "java/lang/invoke/MethodHandle" ∧ yX8_knock.cls ≠ "java/lang/invoke/VarHandle" ∧ (parseMethodDescriptor yX8_knock.desc).map (fun d => d.parameters.length) = some 1 := by decide +kernel
set_option maxHeartbeats 4000000 in
set_option maxRecDepth 100000 in
theorem c_X8_knock (l : Launch) (D : va_G) (g : Nat → ClassId) (bo : Nat) (an : Nat → Nat) (ak : Nat → Nat) (bT : Nat) (hT : Nat) (ar : Nat → Nat) (bS : Nat) (bV : Nat) (th : Nat → Nat) (ik : Int32) (n : Nat) (td : Nat) (z : Int32) (kd : Nat → Int32) (ka : Nat → Int32) (ho : Nat → Int32) (fa : Nat → Int32) (si : Nat → Int32) (kn : Nat → Int32) (aw : Nat → Int32) (ev : Nat → Int32) (cr : Nat → Int32) (tr : Nat → Int32) (lw : Nat → Int32) (q : Nat → Int32) (h0 : Int32)  (hb_n : n ≤ 8) (hb_td : td ≤ 40) : Ci l yX8_knock (WW yX8_knock cX8_knock 2 (some FieldType.int)) rmX8_knock D vwCl (TY g) [.ref bo, .int h0] [(bo, .inr (8, [.ref (an 0), .ref (ak 0), .int ik, .ref (bT), .ref (hT), .ref (ar 0), .ref (bS), .ref (bV), .ref (th 0)])), (an 0, .inr (2, [.ref (an 1), .ref (an 2), .ref (an 3), .ref (an 4), .ref (an 5), .ref (an 6), .ref (an 7), .int (nI n), .ref (an 8), .ref (an 9), .ref (an 10), .ref (an 11), .int (nI td), .int z, .ref (an 12)])), (an 1, .inl (g 0, 8, .inl kd)), (an 2, .inl (g 0, 8, .inl ka)), (an 3, .inl (g 0, 8, .inl ho)), (an 4, .inl (g 0, 8, .inl fa)), (an 5, .inl (g 0, 8, .inl si)), (an 6, .inl (g 0, 8, .inl kn)), (an 7, .inl (g 0, 8, .inl aw)), (an 8, .inl (g 0, 40, .inl ev)), (an 9, .inl (g 0, 40, .inl cr)), (an 10, .inl (g 0, 40, .inl tr)), (an 11, .inl (g 0, 4, .inl lw)), (an 12, .inr (0, [.int (q 0), .int (q 1), .int (q 2), .int (q 3), .int (q 4), .int (q 5), .int (q 6), .int (q 7), .int (q 8)]))] (fun r u => ∃ (kn' : Nat → Int32), (((n, kd, ka, ho, fa, si, kn', aw, ev, cr, tr, lw, td, z) : MG) = gKnock h0 (n, kd, ka, ho, fa, si, kn, aw, ev, cr, tr, lw, td, z) ∧ r = aKnock h0 (n, kd, ka, ho, fa, si, kn, aw, ev, cr, tr, lw, td, z)) ∧ u = [(bo, .inr (8, [.ref (an 0), .ref (ak 0), .int ik, .ref (bT), .ref (hT), .ref (ar 0), .ref (bS), .ref (bV), .ref (th 0)])), (an 0, .inr (2, [.ref (an 1), .ref (an 2), .ref (an 3), .ref (an 4), .ref (an 5), .ref (an 6), .ref (an 7), .int (nI n), .ref (an 8), .ref (an 9), .ref (an 10), .ref (an 11), .int (nI td), .int z, .ref (an 12)])), (an 1, .inl (g 0, 8, .inl kd)), (an 2, .inl (g 0, 8, .inl ka)), (an 3, .inl (g 0, 8, .inl ho)), (an 4, .inl (g 0, 8, .inl fa)), (an 5, .inl (g 0, 8, .inl si)), (an 6, .inl (g 0, 8, .inl kn')), (an 7, .inl (g 0, 8, .inl aw)), (an 8, .inl (g 0, 40, .inl ev)), (an 9, .inl (g 0, 40, .inl cr)), (an 10, .inl (g 0, 40, .inl tr)), (an 11, .inl (g 0, 4, .inl lw)), (an 12, .inr (0, [.int (q 0), .int (q 1), .int (q 2), .int (q 3), .int (q 4), .int (q 5), .int (q 6), .int (q 7), .int (q 8)]))]) := by
  refine ci_in (by decide) (Nat.le_of_ble_eq_true rfl) (a0 := [bo, an 0, an 1, an 2, an 3, an 4, an 5, an 6, an 7, an 8, an 9, an 10, an 11, an 12]) rfl (fun p e s m args below meth c A Q hQ B hr hsc => ?_)
  refine s_iload_n B dX8_knock_0 rfl 1 rfl ?_
  refine s_callSi B hsc (c_X8_isHouse l D g h0) (gw_S ml_X8_95 sm_yX8_isHouse ini_RX8 co_yX8_isHouse) hd_X8_isHouse rfl rfl ⟨(Nat.le_of_ble_eq_true rfl), (Nat.le_of_ble_eq_true rfl)⟩ [] [0, 1, 2, 3, 4] rfl rfl rfl rfl rfl (Nat.le_of_ble_eq_true rfl) dX8_knock_1 (fun r_1 u_2 hpo => ?_)
  obtain ⟨rfl, rfl⟩ := hpo
  refine s_st (st' := [.int (if ¬ h0 < 0 ∧ h0 < 6 then 1 else 0)]) rfl ?_
  refine s_ws (ws' := [(bo, .inr (8, [.ref (an 0), .ref (ak 0), .int ik, .ref (bT), .ref (hT), .ref (ar 0), .ref (bS), .ref (bV), .ref (th 0)])), (an 0, .inr (2, [.ref (an 1), .ref (an 2), .ref (an 3), .ref (an 4), .ref (an 5), .ref (an 6), .ref (an 7), .int (nI n), .ref (an 8), .ref (an 9), .ref (an 10), .ref (an 11), .int (nI td), .int z, .ref (an 12)])), (an 1, .inl (g 0, 8, .inl kd)), (an 2, .inl (g 0, 8, .inl ka)), (an 3, .inl (g 0, 8, .inl ho)), (an 4, .inl (g 0, 8, .inl fa)), (an 5, .inl (g 0, 8, .inl si)), (an 6, .inl (g 0, 8, .inl kn)), (an 7, .inl (g 0, 8, .inl aw)), (an 8, .inl (g 0, 40, .inl ev)), (an 9, .inl (g 0, 40, .inl cr)), (an 10, .inl (g 0, 40, .inl tr)), (an 11, .inl (g 0, 4, .inl lw)), (an 12, .inr (0, [.int (q 0), .int (q 1), .int (q 2), .int (q 3), .int (q 4), .int (q 5), .int (q 6), .int (q 7), .int (q 8)]))]) rfl ?_
  refine s_bif_eq (tgt := 18) B dX8_knock_4 rfl (fun h4 => ?_) (fun h4 => ?_)
  · refine s_iconst B dX8_knock_18 ic_m1 ?_
    refine s_iret B hQ hr dX8_knock_19 rfl ?_
    exact ⟨kn, (cg_knock_no (G := (n, kd, ka, ho, fa, si, kn, aw, ev, cr, tr, lw, td, z)) h4), rfl⟩
  · obtain ⟨k_3, hk_4, rfl⟩ := nat_lt2 (N := 6) h4.1 h4.2 (by omega)
    refine s_aload_n B dX8_knock_7 rfl 0 rfl ?_
    refine s_get (T := TX8) B inX8 0 rfl rfl 0 (Nat.le_of_ble_eq_true rfl) fl_X8_10 rfl rfl dX8_knock_8 ?_
    refine s_iload_n B dX8_knock_11 rfl 1 rfl ?_
    refine s_callVi B hsc (c_X2_knockAt l D g an kd ka ho fa si kn aw n ev cr tr lw td z q (nI k_3) (by omega)) (gw_V ml_X8_154 im_yX2_knockAt se_yX2_knockAt ini_RX2 co_yX2_knockAt) hd_X2_knockAt rfl rfl ⟨(Nat.le_of_ble_eq_true rfl), (Nat.le_of_ble_eq_true rfl)⟩ [1, 2, 3, 4, 5, 6, 7, 8, 9, 10, 11, 12, 13] [0, 1, 2, 3, 4] rfl rfl rfl (ci := 2) (q0 := 0) rfl rfl rfl rfl rfl (Nat.le_of_ble_eq_true rfl) dX8_knock_12 (fun r_5 u_6 hpo => ?_)
    obtain ⟨rfl, rfl⟩ := hpo
    refine s_st (st' := [.int (nI (mCt (fun c => decide (ho c = (nI k_3))) n))]) rfl ?_
    refine s_ws (ws' := [(bo, .inr (8, [.ref (an 0), .ref (ak 0), .int ik, .ref (bT), .ref (hT), .ref (ar 0), .ref (bS), .ref (bV), .ref (th 0)])), (an 0, .inr (2, [.ref (an 1), .ref (an 2), .ref (an 3), .ref (an 4), .ref (an 5), .ref (an 6), .ref (an 7), .int (nI n), .ref (an 8), .ref (an 9), .ref (an 10), .ref (an 11), .int (nI td), .int z, .ref (an 12)])), (an 1, .inl (g 0, 8, .inl kd)), (an 2, .inl (g 0, 8, .inl ka)), (an 3, .inl (g 0, 8, .inl ho)), (an 4, .inl (g 0, 8, .inl fa)), (an 5, .inl (g 0, 8, .inl si)), (an 6, .inl (g 0, 8, .inl (mKn1 ho lw (nI k_3) kn n))), (an 7, .inl (g 0, 8, .inl aw)), (an 8, .inl (g 0, 40, .inl ev)), (an 9, .inl (g 0, 40, .inl cr)), (an 10, .inl (g 0, 40, .inl tr)), (an 11, .inl (g 0, 4, .inl lw)), (an 12, .inr (0, [.int (q 0), .int (q 1), .int (q 2), .int (q 3), .int (q 4), .int (q 5), .int (q 6), .int (q 7), .int (q 8)]))]) rfl ?_
    refine s_goto (tgt := 19) B dX8_knock_15 rfl ?_
    refine s_iret B hQ hr dX8_knock_19 rfl ?_
    exact ⟨(mKn1 ho lw (nI k_3) kn n), (cg_knock_ok (G := (n, kd, ka, ho, fa, si, kn, aw, ev, cr, tr, lw, td, z)) h4), rfl⟩
def rmX8_write : Room := { frames := 1, cells := 0, slots := 0, locals := 21 }
theorem hd_X8_write : yX8_write.cls = RX8 ∧ yX8_write.cls ≠ "java/lang/invoke/MethodHandle" ∧ yX8_write.cls ≠ "java/lang/invoke/VarHandle" ∧ (parseMethodDescriptor yX8_write.desc).map (fun d => d.parameters.length) = some 3 := by decide +kernel
set_option maxHeartbeats 4000000 in
set_option maxRecDepth 100000 in
theorem c_X8_write (l : Launch) (D : va_G) (g : Nat → ClassId) (bo : Nat) (an : Nat → Nat) (ak : Nat → Nat) (bT : Nat) (hT : Nat) (ar : Nat → Nat) (bS : Nat) (bV : Nat) (th : Nat → Nat) (ik : Int32) (n : Nat) (td : Nat) (z : Int32) (kd : Nat → Int32) (ka : Nat → Int32) (ho : Nat → Int32) (fa : Nat → Int32) (si : Nat → Int32) (kn : Nat → Int32) (aw : Nat → Int32) (ev : Nat → Int32) (cr : Nat → Int32) (tr : Nat → Int32) (lw : Nat → Int32) (q : Nat → Int32) (d0 : Int32) (c0 : Int32) (i0 : Int32)  (hb_n : n ≤ 8) (hb_td : td ≤ 40) : Ci l yX8_write (WW yX8_write cX8_write 6 (some FieldType.int)) rmX8_write D vwCl (TY g) [.ref bo, .int d0, .int c0, .int i0] [(bo, .inr (8, [.ref (an 0), .ref (ak 0), .int ik, .ref (bT), .ref (hT), .ref (ar 0), .ref (bS), .ref (bV), .ref (th 0)])), (an 0, .inr (2, [.ref (an 1), .ref (an 2), .ref (an 3), .ref (an 4), .ref (an 5), .ref (an 6), .ref (an 7), .int (nI n), .ref (an 8), .ref (an 9), .ref (an 10), .ref (an 11), .int (nI td), .int z, .ref (an 12)])), (an 1, .inl (g 0, 8, .inl kd)), (an 2, .inl (g 0, 8, .inl ka)), (an 3, .inl (g 0, 8, .inl ho)), (an 4, .inl (g 0, 8, .inl fa)), (an 5, .inl (g 0, 8, .inl si)), (an 6, .inl (g 0, 8, .inl kn)), (an 7, .inl (g 0, 8, .inl aw)), (an 8, .inl (g 0, 40, .inl ev)), (an 9, .inl (g 0, 40, .inl cr)), (an 10, .inl (g 0, 40, .inl tr)), (an 11, .inl (g 0, 4, .inl lw)), (an 12, .inr (0, [.int (q 0), .int (q 1), .int (q 2), .int (q 3), .int (q 4), .int (q 5), .int (q 6), .int (q 7), .int (q 8)]))] (fun r u => ∃ (cr' : Nat → Int32), (((n, kd, ka, ho, fa, si, kn, aw, ev, cr', tr, lw, td, z) : MG) = gWrite d0 c0 i0 (n, kd, ka, ho, fa, si, kn, aw, ev, cr, tr, lw, td, z) ∧ r = aWrite d0 c0 i0 (n, kd, ka, ho, fa, si, kn, aw, ev, cr, tr, lw, td, z)) ∧ u = [(bo, .inr (8, [.ref (an 0), .ref (ak 0), .int ik, .ref (bT), .ref (hT), .ref (ar 0), .ref (bS), .ref (bV), .ref (th 0)])), (an 0, .inr (2, [.ref (an 1), .ref (an 2), .ref (an 3), .ref (an 4), .ref (an 5), .ref (an 6), .ref (an 7), .int (nI n), .ref (an 8), .ref (an 9), .ref (an 10), .ref (an 11), .int (nI td), .int z, .ref (an 12)])), (an 1, .inl (g 0, 8, .inl kd)), (an 2, .inl (g 0, 8, .inl ka)), (an 3, .inl (g 0, 8, .inl ho)), (an 4, .inl (g 0, 8, .inl fa)), (an 5, .inl (g 0, 8, .inl si)), (an 6, .inl (g 0, 8, .inl kn)), (an 7, .inl (g 0, 8, .inl aw)), (an 8, .inl (g 0, 40, .inl ev)), (an 9, .inl (g 0, 40, .inl cr')), (an 10, .inl (g 0, 40, .inl tr)), (an 11, .inl (g 0, 4, .inl lw)), (an 12, .inr (0, [.int (q 0), .int (q 1), .int (q 2), .int (q 3), .int (q 4), .int (q 5), .int (q 6), .int (q 7), .int (q 8)]))]) := by
  refine ci_in (by decide) (Nat.le_of_ble_eq_true rfl) (a0 := [bo, an 0, an 1, an 2, an 3, an 4, an 5, an 6, an 7, an 8, an 9, an 10, an 11, an 12]) rfl (fun p e s m args below meth c A Q hQ B hr hsc => ?_)
  refine s_iload_n B dX8_write_0 rfl 1 rfl ?_
  refine s_callSi B hsc (c_X8_isDay l D g d0) (gw_S ml_X8_119 sm_yX8_isDay ini_RX8 co_yX8_isDay) hd_X8_isDay rfl rfl ⟨(Nat.le_of_ble_eq_true rfl), (Nat.le_of_ble_eq_true rfl)⟩ [] [0, 1, 2, 3, 4] rfl rfl rfl rfl rfl (Nat.le_of_ble_eq_true rfl) dX8_write_1 (fun r_1 u_2 hpo => ?_)
  obtain ⟨rfl, rfl⟩ := hpo
  refine s_st (st' := [.int (if ¬ d0 < 0 ∧ d0 < 40 then 1 else 0)]) rfl ?_
  refine s_ws (ws' := [(bo, .inr (8, [.ref (an 0), .ref (ak 0), .int ik, .ref (bT), .ref (hT), .ref (ar 0), .ref (bS), .ref (bV), .ref (th 0)])), (an 0, .inr (2, [.ref (an 1), .ref (an 2), .ref (an 3), .ref (an 4), .ref (an 5), .ref (an 6), .ref (an 7), .int (nI n), .ref (an 8), .ref (an 9), .ref (an 10), .ref (an 11), .int (nI td), .int z, .ref (an 12)])), (an 1, .inl (g 0, 8, .inl kd)), (an 2, .inl (g 0, 8, .inl ka)), (an 3, .inl (g 0, 8, .inl ho)), (an 4, .inl (g 0, 8, .inl fa)), (an 5, .inl (g 0, 8, .inl si)), (an 6, .inl (g 0, 8, .inl kn)), (an 7, .inl (g 0, 8, .inl aw)), (an 8, .inl (g 0, 40, .inl ev)), (an 9, .inl (g 0, 40, .inl cr)), (an 10, .inl (g 0, 40, .inl tr)), (an 11, .inl (g 0, 4, .inl lw)), (an 12, .inr (0, [.int (q 0), .int (q 1), .int (q 2), .int (q 3), .int (q 4), .int (q 5), .int (q 6), .int (q 7), .int (q 8)]))]) rfl ?_
  refine s_bif_eq (tgt := 29) B dX8_write_4 rfl (fun h4 => ?_) (fun h4 => ?_)
  · refine s_iconst B dX8_write_29 ic_m1 ?_
    refine s_iret B hQ hr dX8_write_30 rfl ?_
    exact ⟨cr, (cg_write_no (G := (n, kd, ka, ho, fa, si, kn, aw, ev, cr, tr, lw, td, z)) (by first | exact (okW_d hb_td (by assumption)) | exact (okW_td (by omega) (by omega)) | exact (fun q => absurd q.2 (by assumption)))), rfl⟩
  · obtain ⟨k_3, hk_4, rfl⟩ := nat_lt2 (N := 40) h4.1 h4.2 (by omega)
    refine s_iload_n B dX8_write_7 rfl 1 rfl ?_
    refine s_aload_n B dX8_write_8 rfl 0 rfl ?_
    refine s_get (T := TX8) B inX8 0 rfl rfl 0 (Nat.le_of_ble_eq_true rfl) fl_X8_10 rfl rfl dX8_write_9 ?_
    refine s_get (T := TX2) B inX2 1 rfl rfl 12 (Nat.le_of_ble_eq_true rfl) fl_X8_140 rfl rfl dX8_write_12 ?_
    refine s_icmp_ge (tgt := 29) B dX8_write_15 rfl (fun h15 => ?_) (fun h15 => ?_)
    · replace h15 : td ≤ k_3 := (nI_leI (a := td) (b := k_3) (by omega) (by omega)).mp h15
      refine s_iconst B dX8_write_29 ic_m1 ?_
      refine s_iret B hQ hr dX8_write_30 rfl ?_
      exact ⟨cr, (cg_write_no (G := (n, kd, ka, ho, fa, si, kn, aw, ev, cr, tr, lw, td, z)) (by first | exact (okW_d hb_td (by assumption)) | exact (okW_td (by omega) (by omega)) | exact (fun q => absurd q.2 (by assumption)))), rfl⟩
    · replace h15 : ¬ td ≤ k_3 := fun hh => h15 ((nI_leI (a := td) (b := k_3) (by omega) (by omega)).mpr hh)
      refine s_aload_n B dX8_write_18 rfl 0 rfl ?_
      refine s_get (T := TX8) B inX8 0 rfl rfl 0 (Nat.le_of_ble_eq_true rfl) fl_X8_10 rfl rfl dX8_write_19 ?_
      refine s_iload_n B dX8_write_22 rfl 2 rfl ?_
      refine s_callVi B hsc (c_X2_hasChild l D g an kd ka ho fa si kn aw n ev cr tr lw td z q c0) (gw_V ml_X8_102 im_yX2_hasChild se_yX2_hasChild ini_RX2 co_yX2_hasChild) hd_X2_hasChild rfl rfl ⟨(Nat.le_of_ble_eq_true rfl), (Nat.le_of_ble_eq_true rfl)⟩ [1, 2, 3, 4, 5, 6, 7, 8, 9, 10, 11, 12, 13] [0, 1, 2, 3, 4] rfl rfl rfl (ci := 2) (q0 := 0) rfl rfl rfl rfl rfl (Nat.le_of_ble_eq_true rfl) dX8_write_23 (fun r_5 u_6 hpo => ?_)
      obtain ⟨rfl, rfl⟩ := hpo
      refine s_st (st' := [.int (if ¬ c0 < 0 ∧ c0 < nI n then 1 else 0)]) rfl ?_
      refine s_ws (ws' := [(bo, .inr (8, [.ref (an 0), .ref (ak 0), .int ik, .ref (bT), .ref (hT), .ref (ar 0), .ref (bS), .ref (bV), .ref (th 0)])), (an 0, .inr (2, [.ref (an 1), .ref (an 2), .ref (an 3), .ref (an 4), .ref (an 5), .ref (an 6), .ref (an 7), .int (nI n), .ref (an 8), .ref (an 9), .ref (an 10), .ref (an 11), .int (nI td), .int z, .ref (an 12)])), (an 1, .inl (g 0, 8, .inl kd)), (an 2, .inl (g 0, 8, .inl ka)), (an 3, .inl (g 0, 8, .inl ho)), (an 4, .inl (g 0, 8, .inl fa)), (an 5, .inl (g 0, 8, .inl si)), (an 6, .inl (g 0, 8, .inl kn)), (an 7, .inl (g 0, 8, .inl aw)), (an 8, .inl (g 0, 40, .inl ev)), (an 9, .inl (g 0, 40, .inl cr)), (an 10, .inl (g 0, 40, .inl tr)), (an 11, .inl (g 0, 4, .inl lw)), (an 12, .inr (0, [.int (q 0), .int (q 1), .int (q 2), .int (q 3), .int (q 4), .int (q 5), .int (q 6), .int (q 7), .int (q 8)]))]) rfl ?_
      refine s_bif_ne (tgt := 31) B dX8_write_26 rfl (fun h26 => ?_) (fun h26 => ?_)
      · obtain ⟨k_7, hk_8, rfl⟩ := nat_lt2 (N := n) h26.1 h26.2 (by omega)
        have M74 : ∀ (v_9 : Int32), (n ≤ 8) → (td ≤ 40) → (¬ (nI k_3) < 0 ∧ (nI k_3) < 40) → (k_3 < 40) → (¬ td ≤ k_3) → (¬ (nI k_7) < 0 ∧ (nI k_7) < nI n) → (k_7 < n) → (v_9 = mWr (cr k_3) (nI k_7) i0) → Sx p l e rmX8_write s m args below meth c D vwCl A 6 Q 74 [(0, .ref bo), (1, .int (nI k_3)), (4, .int (cr k_3))] [.int v_9, .int (nI k_3), .ref (an 9)] [(bo, .inr (8, [.ref (an 0), .ref (ak 0), .int ik, .ref (bT), .ref (hT), .ref (ar 0), .ref (bS), .ref (bV), .ref (th 0)])), (an 0, .inr (2, [.ref (an 1), .ref (an 2), .ref (an 3), .ref (an 4), .ref (an 5), .ref (an 6), .ref (an 7), .int (nI n), .ref (an 8), .ref (an 9), .ref (an 10), .ref (an 11), .int (nI td), .int z, .ref (an 12)])), (an 1, .inl (g 0, 8, .inl kd)), (an 2, .inl (g 0, 8, .inl ka)), (an 3, .inl (g 0, 8, .inl ho)), (an 4, .inl (g 0, 8, .inl fa)), (an 5, .inl (g 0, 8, .inl si)), (an 6, .inl (g 0, 8, .inl kn)), (an 7, .inl (g 0, 8, .inl aw)), (an 8, .inl (g 0, 40, .inl ev)), (an 9, .inl (g 0, 40, .inl cr)), (an 10, .inl (g 0, 40, .inl tr)), (an 11, .inl (g 0, 4, .inl lw)), (an 12, .inr (0, [.int (q 0), .int (q 1), .int (q 2), .int (q 3), .int (q 4), .int (q 5), .int (q 6), .int (q 7), .int (q 8)]))] := by
          intro v_9 hb_n hb_td h4 hk_4 h15 h26 hk_8 hW_10
          refine s_iastN (ws' := [_, _, _, _, _, _, _, _, _, _, _, _, _, _]) B 10 0 rfl rfl rfl dX8_write_74 (by omega) (by decide) ?_
          refine s_aload_n B dX8_write_75 rfl 0 rfl ?_
          refine s_get (T := TX8) B inX8 0 rfl rfl 0 (Nat.le_of_ble_eq_true rfl) fl_X8_10 rfl rfl dX8_write_76 ?_
          refine s_get (T := TX2) B inX2 1 rfl rfl 9 (Nat.le_of_ble_eq_true rfl) fl_X8_125 rfl rfl dX8_write_79 ?_
          refine s_iload_n B dX8_write_82 rfl 1 rfl ?_
          refine s_ialdN B 10 0 rfl rfl dX8_write_83 (by omega) (by decide) ?_
          refine s_iload B dX8_write_84 2 rfl ?_
          refine s_icmp_eq (tgt := 93) B dX8_write_86 rfl (fun h86 => ?_) (fun h86 => ?_)
          · refine s_iconst B dX8_write_93 ic_0 ?_
            refine s_iret B hQ hr dX8_write_94 rfl ?_
            exact ⟨(upd cr k_3 v_9), (cg_write_ok (G := (n, kd, ka, ho, fa, si, kn, aw, ev, cr, tr, lw, td, z)) (show k_3 < td by omega) hb_td (by omega) hb_n hW_10 (Or.inl ⟨(upd_is _ _ _).symm.trans h86, rfl⟩)), rfl⟩
          · refine s_iconst B dX8_write_89 ic_1 ?_
            refine s_goto (tgt := 94) B dX8_write_90 rfl ?_
            refine s_iret B hQ hr dX8_write_94 rfl ?_
            exact ⟨(upd cr k_3 v_9), (cg_write_ok (G := (n, kd, ka, ho, fa, si, kn, aw, ev, cr, tr, lw, td, z)) (show k_3 < td by omega) hb_td (by omega) hb_n hW_10 (Or.inr ⟨fun q => h86 ((upd_is _ _ _).trans q), rfl⟩)), rfl⟩
        refine s_aload_n B dX8_write_31 rfl 0 rfl ?_
        refine s_get (T := TX8) B inX8 0 rfl rfl 0 (Nat.le_of_ble_eq_true rfl) fl_X8_10 rfl rfl dX8_write_32 ?_
        refine s_get (T := TX2) B inX2 1 rfl rfl 9 (Nat.le_of_ble_eq_true rfl) fl_X8_125 rfl rfl dX8_write_35 ?_
        refine s_iload_n B dX8_write_38 rfl 1 rfl ?_
        refine s_ialdN B 10 0 rfl rfl dX8_write_39 (by omega) (by decide) ?_
        refine s_istore (lv' := [(4, _), (0, _), (1, _), (2, _), (3, _)]) B dX8_write_40 (Nat.le_of_ble_eq_true rfl) rfl ?_
        refine s_iconst B dX8_write_42 ic_1 ?_
        refine s_iload_n B dX8_write_43 rfl 3 rfl ?_
        refine s_ishl B dX8_write_44 ?_
        refine s_istore (lv' := [(5, _), (4, _), (0, _), (1, _), (2, _), (3, _)]) B dX8_write_45 (Nat.le_of_ble_eq_true rfl) rfl ?_
        refine s_aload_n B dX8_write_47 rfl 2 rfl ?_
        refine s_get (T := TX8) B inX8 0 rfl rfl 0 (Nat.le_of_ble_eq_true rfl) fl_X8_10 rfl rfl dX8_write_48 ?_
        refine s_get (T := TX2) B inX2 1 rfl rfl 9 (Nat.le_of_ble_eq_true rfl) fl_X8_125 rfl rfl dX8_write_51 ?_
        refine s_iload_n B dX8_write_54 rfl 3 rfl ?_
        refine s_iload_n B dX8_write_55 rfl 5 rfl ?_
        refine s_if_eq (tgt := 67) B dX8_write_56 rfl (fun h56 => ?_) (fun h56 => ?_)
        · refine s_iload B dX8_write_67 1 rfl ?_
          refine s_iload B dX8_write_69 0 rfl ?_
          refine s_iconst B dX8_write_71 ic_m1 ?_
          refine s_ixor B dX8_write_72 ?_
          refine s_iand B dX8_write_73 ?_
          refine s_lv (lv' := [(0, _), (1, _), (4, _)]) [2, 3, 1] rfl ?_
          exact M74 ((cr k_3) &&& ((1 <<< ((nI k_7) &&& 31)) ^^^ (-1))) hb_n hb_td h4 hk_4 h15 h26 hk_8 (by first | exact (if_pos (by assumption)).symm | exact (if_neg (by assumption)).symm)
        · refine s_iload B dX8_write_59 1 rfl ?_
          refine s_iload B dX8_write_61 0 rfl ?_
          refine s_ior B dX8_write_63 ?_
          refine s_goto (tgt := 74) B dX8_write_64 rfl ?_
          refine s_lv (lv' := [(0, _), (1, _), (4, _)]) [2, 3, 1] rfl ?_
          exact M74 ((cr k_3) ||| (1 <<< ((nI k_7) &&& 31))) hb_n hb_td h4 hk_4 h15 h26 hk_8 (by first | exact (if_pos (by assumption)).symm | exact (if_neg (by assumption)).symm)
      · refine s_iconst B dX8_write_29 ic_m1 ?_
        refine s_iret B hQ hr dX8_write_30 rfl ?_
        exact ⟨cr, (cg_write_no (G := (n, kd, ka, ho, fa, si, kn, aw, ev, cr, tr, lw, td, z)) (by first | exact (okW_d hb_td (by assumption)) | exact (okW_td (by omega) (by omega)) | exact (fun q => absurd q.2 (by assumption)))), rfl⟩
def rmX8_marks : Room := { frames := 1, cells := 0, slots := 0, locals := 22 }
theorem hd_X8_marks : yX8_marks.cls = RX8 ∧ yX8_marks.cls ≠ "java/lang/invoke/MethodHandle" ∧ yX8_marks.cls ≠ "java/lang/invoke/VarHandle" ∧ (parseMethodDescriptor yX8_marks.desc).map (fun d => d.parameters.length) = some 1 := by decide +kernel
set_option maxHeartbeats 4000000 in
set_option maxRecDepth 100000 in
theorem c_X8_marks (l : Launch) (D : va_G) (g : Nat → ClassId) (bo : Nat) (an : Nat → Nat) (ak : Nat → Nat) (bT : Nat) (hT : Nat) (ar : Nat → Nat) (bS : Nat) (bV : Nat) (th : Nat → Nat) (ik : Int32) (n : Nat) (td : Nat) (z : Int32) (kd : Nat → Int32) (ka : Nat → Int32) (ho : Nat → Int32) (fa : Nat → Int32) (si : Nat → Int32) (kn : Nat → Int32) (aw : Nat → Int32) (ev : Nat → Int32) (cr : Nat → Int32) (tr : Nat → Int32) (lw : Nat → Int32) (q : Nat → Int32) (c0 : Int32)  (hb_n : n ≤ 8) (hb_td : td ≤ 40) : Ci l yX8_marks (WW yX8_marks cX8_marks 4 (some FieldType.int)) rmX8_marks D vwCl (TY g) [.ref bo, .int c0] [(bo, .inr (8, [.ref (an 0), .ref (ak 0), .int ik, .ref (bT), .ref (hT), .ref (ar 0), .ref (bS), .ref (bV), .ref (th 0)])), (an 0, .inr (2, [.ref (an 1), .ref (an 2), .ref (an 3), .ref (an 4), .ref (an 5), .ref (an 6), .ref (an 7), .int (nI n), .ref (an 8), .ref (an 9), .ref (an 10), .ref (an 11), .int (nI td), .int z, .ref (an 12)])), (an 1, .inl (g 0, 8, .inl kd)), (an 2, .inl (g 0, 8, .inl ka)), (an 3, .inl (g 0, 8, .inl ho)), (an 4, .inl (g 0, 8, .inl fa)), (an 5, .inl (g 0, 8, .inl si)), (an 6, .inl (g 0, 8, .inl kn)), (an 7, .inl (g 0, 8, .inl aw)), (an 8, .inl (g 0, 40, .inl ev)), (an 9, .inl (g 0, 40, .inl cr)), (an 10, .inl (g 0, 40, .inl tr)), (an 11, .inl (g 0, 4, .inl lw)), (an 12, .inr (0, [.int (q 0), .int (q 1), .int (q 2), .int (q 3), .int (q 4), .int (q 5), .int (q 6), .int (q 7), .int (q 8)]))] (fun r u => (r = aMarks c0 (n, kd, ka, ho, fa, si, kn, aw, ev, cr, tr, lw, td, z)) ∧ u = [(bo, .inr (8, [.ref (an 0), .ref (ak 0), .int ik, .ref (bT), .ref (hT), .ref (ar 0), .ref (bS), .ref (bV), .ref (th 0)])), (an 0, .inr (2, [.ref (an 1), .ref (an 2), .ref (an 3), .ref (an 4), .ref (an 5), .ref (an 6), .ref (an 7), .int (nI n), .ref (an 8), .ref (an 9), .ref (an 10), .ref (an 11), .int (nI td), .int z, .ref (an 12)])), (an 1, .inl (g 0, 8, .inl kd)), (an 2, .inl (g 0, 8, .inl ka)), (an 3, .inl (g 0, 8, .inl ho)), (an 4, .inl (g 0, 8, .inl fa)), (an 5, .inl (g 0, 8, .inl si)), (an 6, .inl (g 0, 8, .inl kn)), (an 7, .inl (g 0, 8, .inl aw)), (an 8, .inl (g 0, 40, .inl ev)), (an 9, .inl (g 0, 40, .inl cr)), (an 10, .inl (g 0, 40, .inl tr)), (an 11, .inl (g 0, 4, .inl lw)), (an 12, .inr (0, [.int (q 0), .int (q 1), .int (q 2), .int (q 3), .int (q 4), .int (q 5), .int (q 6), .int (q 7), .int (q 8)]))]) := by
  refine ci_in (by decide) (Nat.le_of_ble_eq_true rfl) (a0 := [bo, an 0, an 1, an 2, an 3, an 4, an 5, an 6, an 7, an 8, an 9, an 10, an 11, an 12]) rfl (fun p e s m args below meth c A Q hQ B hr hsc => ?_)
  refine s_aload_n B dX8_marks_0 rfl 0 rfl ?_
  refine s_get (T := TX8) B inX8 0 rfl rfl 0 (Nat.le_of_ble_eq_true rfl) fl_X8_10 rfl rfl dX8_marks_1 ?_
  refine s_iload_n B dX8_marks_4 rfl 1 rfl ?_
  refine s_callVi B hsc (c_X2_hasChild l D g an kd ka ho fa si kn aw n ev cr tr lw td z q c0) (gw_V ml_X8_102 im_yX2_hasChild se_yX2_hasChild ini_RX2 co_yX2_hasChild) hd_X2_hasChild rfl rfl ⟨(Nat.le_of_ble_eq_true rfl), (Nat.le_of_ble_eq_true rfl)⟩ [1, 2, 3, 4, 5, 6, 7, 8, 9, 10, 11, 12, 13] [0, 1, 2, 3, 4] rfl rfl rfl (ci := 2) (q0 := 0) rfl rfl rfl rfl rfl (Nat.le_of_ble_eq_true rfl) dX8_marks_5 (fun r_1 u_2 hpo => ?_)
  obtain ⟨rfl, rfl⟩ := hpo
  refine s_st (st' := [.int (if ¬ c0 < 0 ∧ c0 < nI n then 1 else 0)]) rfl ?_
  refine s_ws (ws' := [(bo, .inr (8, [.ref (an 0), .ref (ak 0), .int ik, .ref (bT), .ref (hT), .ref (ar 0), .ref (bS), .ref (bV), .ref (th 0)])), (an 0, .inr (2, [.ref (an 1), .ref (an 2), .ref (an 3), .ref (an 4), .ref (an 5), .ref (an 6), .ref (an 7), .int (nI n), .ref (an 8), .ref (an 9), .ref (an 10), .ref (an 11), .int (nI td), .int z, .ref (an 12)])), (an 1, .inl (g 0, 8, .inl kd)), (an 2, .inl (g 0, 8, .inl ka)), (an 3, .inl (g 0, 8, .inl ho)), (an 4, .inl (g 0, 8, .inl fa)), (an 5, .inl (g 0, 8, .inl si)), (an 6, .inl (g 0, 8, .inl kn)), (an 7, .inl (g 0, 8, .inl aw)), (an 8, .inl (g 0, 40, .inl ev)), (an 9, .inl (g 0, 40, .inl cr)), (an 10, .inl (g 0, 40, .inl tr)), (an 11, .inl (g 0, 4, .inl lw)), (an 12, .inr (0, [.int (q 0), .int (q 1), .int (q 2), .int (q 3), .int (q 4), .int (q 5), .int (q 6), .int (q 7), .int (q 8)]))]) rfl ?_
  refine s_bif_ne (tgt := 13) B dX8_marks_8 rfl (fun h8 => ?_) (fun h8 => ?_)
  · obtain ⟨k_3, hk_4, rfl⟩ := nat_lt2 (N := n) h8.1 h8.2 (by omega)
    have L17 : ∀ (jj17 : Nat) (v_5 : Int32) (k_6 : Nat), 40 - k_6 < jj17 → (n ≤ 8) → (td ≤ 40) → (¬ (nI k_3) < 0 ∧ (nI k_3) < nI n) → (k_3 < n) → (k_6 ≤ 40) → (v_5 = nI (mCt (fun d => bt (cr d) k_3) k_6)) → Sx p l e rmX8_marks s m args below meth c D vwCl A 4 Q 17 [(0, .ref bo), (1, .int (nI k_3)), (2, .int v_5), (3, .int (nI k_6))] [] [(bo, .inr (8, [.ref (an 0), .ref (ak 0), .int ik, .ref (bT), .ref (hT), .ref (ar 0), .ref (bS), .ref (bV), .ref (th 0)])), (an 0, .inr (2, [.ref (an 1), .ref (an 2), .ref (an 3), .ref (an 4), .ref (an 5), .ref (an 6), .ref (an 7), .int (nI n), .ref (an 8), .ref (an 9), .ref (an 10), .ref (an 11), .int (nI td), .int z, .ref (an 12)])), (an 1, .inl (g 0, 8, .inl kd)), (an 2, .inl (g 0, 8, .inl ka)), (an 3, .inl (g 0, 8, .inl ho)), (an 4, .inl (g 0, 8, .inl fa)), (an 5, .inl (g 0, 8, .inl si)), (an 6, .inl (g 0, 8, .inl kn)), (an 7, .inl (g 0, 8, .inl aw)), (an 8, .inl (g 0, 40, .inl ev)), (an 9, .inl (g 0, 40, .inl cr)), (an 10, .inl (g 0, 40, .inl tr)), (an 11, .inl (g 0, 4, .inl lw)), (an 12, .inr (0, [.int (q 0), .int (q 1), .int (q 2), .int (q 3), .int (q 4), .int (q 5), .int (q 6), .int (q 7), .int (q 8)]))] := by
      intro jj17
      induction jj17 with
      | zero => intro v_5 k_6 hj; exact absurd hj (Nat.not_lt_zero _)
      | succ jj17 ih17 =>
        intro v_5 k_6 hj17 hb_n hb_td h8 hk_4 h_7 hM_8
        have M38 : ∀ (v_11 : Int32), (n ≤ 8) → (td ≤ 40) → (¬ (nI k_3) < 0 ∧ (nI k_3) < nI n) → (k_3 < n) → (k_6 ≤ 40) → (v_5 = nI (mCt (fun d => bt (cr d) k_3) k_6)) → (¬ 40 ≤ k_6) → (v_11 = nI (mCt (fun d => bt (cr d) k_3) (k_6 + 1))) → Sx p l e rmX8_marks s m args below meth c D vwCl A 4 Q 38 [(0, .ref bo), (1, .int (nI k_3)), (2, .int v_11), (3, .int (nI k_6))] [] [(bo, .inr (8, [.ref (an 0), .ref (ak 0), .int ik, .ref (bT), .ref (hT), .ref (ar 0), .ref (bS), .ref (bV), .ref (th 0)])), (an 0, .inr (2, [.ref (an 1), .ref (an 2), .ref (an 3), .ref (an 4), .ref (an 5), .ref (an 6), .ref (an 7), .int (nI n), .ref (an 8), .ref (an 9), .ref (an 10), .ref (an 11), .int (nI td), .int z, .ref (an 12)])), (an 1, .inl (g 0, 8, .inl kd)), (an 2, .inl (g 0, 8, .inl ka)), (an 3, .inl (g 0, 8, .inl ho)), (an 4, .inl (g 0, 8, .inl fa)), (an 5, .inl (g 0, 8, .inl si)), (an 6, .inl (g 0, 8, .inl kn)), (an 7, .inl (g 0, 8, .inl aw)), (an 8, .inl (g 0, 40, .inl ev)), (an 9, .inl (g 0, 40, .inl cr)), (an 10, .inl (g 0, 40, .inl tr)), (an 11, .inl (g 0, 4, .inl lw)), (an 12, .inr (0, [.int (q 0), .int (q 1), .int (q 2), .int (q 3), .int (q 4), .int (q 5), .int (q 6), .int (q 7), .int (q 8)]))] := by
          intro v_11 hb_n hb_td h8 hk_4 h_7 hM_8 h20 hM_12
          refine s_iinc (lv' := [(3, _), (0, _), (1, _), (2, _)]) (k := 3) B dX8_marks_38 rfl (ii_n _) (Nat.le_of_ble_eq_true rfl) rfl ?_
          refine s_goto (tgt := 17) B dX8_marks_41 rfl ?_
          refine s_lv (lv' := [(0, _), (1, _), (2, _), (3, _)]) [1, 2, 3, 0] rfl ?_
          exact ih17 v_11 (k_6 + 1) (by omega) hb_n hb_td h8 hk_4 (by omega) hM_12
        refine s_iload_n B dX8_marks_17 rfl 3 rfl ?_
        refine s_bipush B dX8_marks_18 bp_40 ?_
        refine s_icmp_ge (tgt := 44) B dX8_marks_20 rfl (fun h20 => ?_) (fun h20 => ?_)
        · replace h20 : 40 ≤ k_6 := (nI_leI (a := 40) (b := k_6) (by omega) (by omega)).mp h20
          refine s_iload_n B dX8_marks_44 rfl 2 rfl ?_
          refine s_iret B hQ hr dX8_marks_45 rfl ?_
          exact ⟨(cg_marks_ok (G := (n, kd, ka, ho, fa, si, kn, aw, ev, cr, tr, lw, td, z)) (by omega) hb_n (show k_6 = 40 by omega) hM_8), rfl⟩
        · replace h20 : ¬ 40 ≤ k_6 := fun hh => h20 ((nI_leI (a := 40) (b := k_6) (by omega) (by omega)).mpr hh)
          refine s_aload_n B dX8_marks_23 rfl 0 rfl ?_
          refine s_get (T := TX8) B inX8 0 rfl rfl 0 (Nat.le_of_ble_eq_true rfl) fl_X8_10 rfl rfl dX8_marks_24 ?_
          refine s_iload_n B dX8_marks_27 rfl 3 rfl ?_
          refine s_iload_n B dX8_marks_28 rfl 1 rfl ?_
          refine s_callVi B hsc (c_X2_hasCross l D g an kd ka ho fa si kn aw n ev cr tr lw td z q k_6 (nI k_3) (by omega)) (gw_V ml_X8_158 im_yX2_hasCross se_yX2_hasCross ini_RX2 co_yX2_hasCross) hd_X2_hasCross rfl rfl ⟨(Nat.le_of_ble_eq_true rfl), (Nat.le_of_ble_eq_true rfl)⟩ [1, 2, 3, 4, 5, 6, 7, 8, 9, 10, 11, 12, 13] [0, 1, 2, 3, 4] rfl rfl rfl (ci := 2) (q0 := 0) rfl rfl rfl rfl rfl (Nat.le_of_ble_eq_true rfl) dX8_marks_29 (fun r_9 u_10 hpo => ?_)
          obtain ⟨rfl, rfl⟩ := hpo
          refine s_st (st' := [.int (if mBitI (cr k_6) (nI k_3) = true then 1 else 0)]) rfl ?_
          refine s_ws (ws' := [(bo, .inr (8, [.ref (an 0), .ref (ak 0), .int ik, .ref (bT), .ref (hT), .ref (ar 0), .ref (bS), .ref (bV), .ref (th 0)])), (an 0, .inr (2, [.ref (an 1), .ref (an 2), .ref (an 3), .ref (an 4), .ref (an 5), .ref (an 6), .ref (an 7), .int (nI n), .ref (an 8), .ref (an 9), .ref (an 10), .ref (an 11), .int (nI td), .int z, .ref (an 12)])), (an 1, .inl (g 0, 8, .inl kd)), (an 2, .inl (g 0, 8, .inl ka)), (an 3, .inl (g 0, 8, .inl ho)), (an 4, .inl (g 0, 8, .inl fa)), (an 5, .inl (g 0, 8, .inl si)), (an 6, .inl (g 0, 8, .inl kn)), (an 7, .inl (g 0, 8, .inl aw)), (an 8, .inl (g 0, 40, .inl ev)), (an 9, .inl (g 0, 40, .inl cr)), (an 10, .inl (g 0, 40, .inl tr)), (an 11, .inl (g 0, 4, .inl lw)), (an 12, .inr (0, [.int (q 0), .int (q 1), .int (q 2), .int (q 3), .int (q 4), .int (q 5), .int (q 6), .int (q 7), .int (q 8)]))]) rfl ?_
          refine s_bif_eq (tgt := 38) B dX8_marks_32 rfl (fun h32 => ?_) (fun h32 => ?_)
          · refine s_lv (lv' := [(0, _), (1, _), (2, _), (3, _)]) [0, 1, 2, 3] rfl ?_
            exact M38 v_5 hb_n hb_td h8 hk_4 h_7 hM_8 h20 (mk_n (by omega) hM_8 h32)
          · refine s_iinc (lv' := [(2, _), (0, _), (1, _), (3, _)]) (k := 2) B dX8_marks_35 rfl (ii_x _ ic_1) (Nat.le_of_ble_eq_true rfl) rfl ?_
            refine s_lv (lv' := [(0, _), (1, _), (2, _), (3, _)]) [1, 2, 0, 3] rfl ?_
            exact M38 (v_5 + 1) hb_n hb_td h8 hk_4 h_7 hM_8 h20 (mk_y (by omega) hM_8 h32)
    refine s_iconst B dX8_marks_13 ic_0 ?_
    refine s_istore_n (lv' := [(2, _), (0, _), (1, _)]) B dX8_marks_14 rfl (Nat.le_of_ble_eq_true rfl) rfl ?_
    refine s_iconst B dX8_marks_15 ic_0 ?_
    refine s_istore_n (lv' := [(3, _), (2, _), (0, _), (1, _)]) B dX8_marks_16 rfl (Nat.le_of_ble_eq_true rfl) rfl ?_
    refine s_lv (lv' := [(0, _), (1, _), (2, _), (3, _)]) [2, 3, 1, 0] rfl ?_
    refine s_lve (lv' := [(0, .ref bo), (1, .int (nI k_3)), (2, .int 0), (3, .int (nI 0))]) (by first | rfl | (simp only [if_pos, if_neg]; done)) ?_
    exact L17 _ 0 0 (Nat.lt_succ_self _) hb_n hb_td h8 hk_4 (by omega) rfl
  · refine s_iconst B dX8_marks_11 ic_m1 ?_
    refine s_iret B hQ hr dX8_marks_12 rfl ?_
    exact ⟨(cg_marks_no (G := (n, kd, ka, ho, fa, si, kn, aw, ev, cr, tr, lw, td, z)) h8), rfl⟩
def rmX8_wrong : Room := { frames := 2, cells := 0, slots := 0, locals := 42 }
theorem hd_X8_wrong : yX8_wrong.cls = RX8 ∧ yX8_wrong.cls ≠ "java/lang/invoke/MethodHandle" ∧ yX8_wrong.cls ≠ "java/lang/invoke/VarHandle" ∧ (parseMethodDescriptor yX8_wrong.desc).map (fun d => d.parameters.length) = some 1 := by decide +kernel
set_option maxHeartbeats 4000000 in
set_option maxRecDepth 100000 in
theorem c_X8_wrong (l : Launch) (D : va_G) (g : Nat → ClassId) (bo : Nat) (an : Nat → Nat) (ak : Nat → Nat) (bT : Nat) (hT : Nat) (ar : Nat → Nat) (bS : Nat) (bV : Nat) (th : Nat → Nat) (ik : Int32) (n : Nat) (td : Nat) (z : Int32) (kd : Nat → Int32) (ka : Nat → Int32) (ho : Nat → Int32) (fa : Nat → Int32) (si : Nat → Int32) (kn : Nat → Int32) (aw : Nat → Int32) (ev : Nat → Int32) (cr : Nat → Int32) (tr : Nat → Int32) (lw : Nat → Int32) (q : Nat → Int32) (w0 : Int32)  (hb_n : n ≤ 8) (hb_td : td ≤ 40) : Ci l yX8_wrong (WW yX8_wrong cX8_wrong 2 (some FieldType.int)) rmX8_wrong D vwCl (TY g) [.ref bo, .int w0] [(bo, .inr (8, [.ref (an 0), .ref (ak 0), .int ik, .ref (bT), .ref (hT), .ref (ar 0), .ref (bS), .ref (bV), .ref (th 0)])), (an 0, .inr (2, [.ref (an 1), .ref (an 2), .ref (an 3), .ref (an 4), .ref (an 5), .ref (an 6), .ref (an 7), .int (nI n), .ref (an 8), .ref (an 9), .ref (an 10), .ref (an 11), .int (nI td), .int z, .ref (an 12)])), (an 1, .inl (g 0, 8, .inl kd)), (an 2, .inl (g 0, 8, .inl ka)), (an 3, .inl (g 0, 8, .inl ho)), (an 4, .inl (g 0, 8, .inl fa)), (an 5, .inl (g 0, 8, .inl si)), (an 6, .inl (g 0, 8, .inl kn)), (an 7, .inl (g 0, 8, .inl aw)), (an 8, .inl (g 0, 40, .inl ev)), (an 9, .inl (g 0, 40, .inl cr)), (an 10, .inl (g 0, 40, .inl tr)), (an 11, .inl (g 0, 4, .inl lw)), (an 12, .inr (0, [.int (q 0), .int (q 1), .int (q 2), .int (q 3), .int (q 4), .int (q 5), .int (q 6), .int (q 7), .int (q 8)]))] (fun r u => (r = aWrong w0 (n, kd, ka, ho, fa, si, kn, aw, ev, cr, tr, lw, td, z)) ∧ u = [(bo, .inr (8, [.ref (an 0), .ref (ak 0), .int ik, .ref (bT), .ref (hT), .ref (ar 0), .ref (bS), .ref (bV), .ref (th 0)])), (an 0, .inr (2, [.ref (an 1), .ref (an 2), .ref (an 3), .ref (an 4), .ref (an 5), .ref (an 6), .ref (an 7), .int (nI n), .ref (an 8), .ref (an 9), .ref (an 10), .ref (an 11), .int (nI td), .int z, .ref (an 12)])), (an 1, .inl (g 0, 8, .inl kd)), (an 2, .inl (g 0, 8, .inl ka)), (an 3, .inl (g 0, 8, .inl ho)), (an 4, .inl (g 0, 8, .inl fa)), (an 5, .inl (g 0, 8, .inl si)), (an 6, .inl (g 0, 8, .inl kn)), (an 7, .inl (g 0, 8, .inl aw)), (an 8, .inl (g 0, 40, .inl ev)), (an 9, .inl (g 0, 40, .inl cr)), (an 10, .inl (g 0, 40, .inl tr)), (an 11, .inl (g 0, 4, .inl lw)), (an 12, .inr (0, [.int (q 0), .int (q 1), .int (q 2), .int (q 3), .int (q 4), .int (q 5), .int (q 6), .int (q 7), .int (q 8)]))]) := by
  refine ci_in (by decide) (Nat.le_of_ble_eq_true rfl) (a0 := [bo, an 0, an 1, an 2, an 3, an 4, an 5, an 6, an 7, an 8, an 9, an 10, an 11, an 12]) rfl (fun p e s m args below meth c A Q hQ B hr hsc => ?_)
  refine s_iload_n B dX8_wrong_0 rfl 1 rfl ?_
  by_cases k1_0 : w0 = 0
  · refine s_tableIn (off := 27) (tgt := 28) B dX8_wrong_1 (by rw [k1_0]; decide) (by rw [k1_0]; decide) (by rw [k1_0]; rfl) rfl ?_
    refine s_aload_n B dX8_wrong_28 rfl 0 rfl ?_
    refine s_get (T := TX8) B inX8 0 rfl rfl 0 (Nat.le_of_ble_eq_true rfl) fl_X8_10 rfl rfl dX8_wrong_29 ?_
    refine s_callVi B hsc (c_X2_falseCrosses l D g an kd ka ho fa si kn aw n ev cr tr lw td z q ) (gw_V ml_X8_162 im_yX2_falseCrosses se_yX2_falseCrosses ini_RX2 co_yX2_falseCrosses) hd_X2_falseCrosses rfl rfl ⟨(Nat.le_of_ble_eq_true rfl), (Nat.le_of_ble_eq_true rfl)⟩ [1, 2, 3, 4, 5, 6, 7, 8, 9, 10, 11, 12, 13] [0, 1, 2, 3, 4] rfl rfl rfl (ci := 2) (q0 := 0) rfl rfl rfl rfl rfl (Nat.le_of_ble_eq_true rfl) dX8_wrong_32 (fun r_1 u_2 hpo => ?_)
    obtain ⟨rfl, rfl⟩ := hpo
    refine s_st (st' := [.int (mSumI (fun d => mPop (cr d &&& (tr d ^^^ (-1)))) 40)]) rfl ?_
    refine s_ws (ws' := [(bo, .inr (8, [.ref (an 0), .ref (ak 0), .int ik, .ref (bT), .ref (hT), .ref (ar 0), .ref (bS), .ref (bV), .ref (th 0)])), (an 0, .inr (2, [.ref (an 1), .ref (an 2), .ref (an 3), .ref (an 4), .ref (an 5), .ref (an 6), .ref (an 7), .int (nI n), .ref (an 8), .ref (an 9), .ref (an 10), .ref (an 11), .int (nI td), .int z, .ref (an 12)])), (an 1, .inl (g 0, 8, .inl kd)), (an 2, .inl (g 0, 8, .inl ka)), (an 3, .inl (g 0, 8, .inl ho)), (an 4, .inl (g 0, 8, .inl fa)), (an 5, .inl (g 0, 8, .inl si)), (an 6, .inl (g 0, 8, .inl kn)), (an 7, .inl (g 0, 8, .inl aw)), (an 8, .inl (g 0, 40, .inl ev)), (an 9, .inl (g 0, 40, .inl cr)), (an 10, .inl (g 0, 40, .inl tr)), (an 11, .inl (g 0, 4, .inl lw)), (an 12, .inr (0, [.int (q 0), .int (q 1), .int (q 2), .int (q 3), .int (q 4), .int (q 5), .int (q 6), .int (q 7), .int (q 8)]))]) rfl ?_
    refine s_iret B hQ hr dX8_wrong_35 rfl ?_
    exact ⟨(by clear hQ B hr hsc; show _ = (if w0 = 0 then _ else if w0 = 1 then _ else if w0 = 2 then _ else _); grind), rfl⟩
  · by_cases k1_1 : w0 = 1
    · refine s_tableIn (off := 35) (tgt := 36) B dX8_wrong_1 (by rw [k1_1]; decide) (by rw [k1_1]; decide) (by rw [k1_1]; rfl) rfl ?_
      refine s_aload_n B dX8_wrong_36 rfl 0 rfl ?_
      refine s_get (T := TX8) B inX8 0 rfl rfl 0 (Nat.le_of_ble_eq_true rfl) fl_X8_10 rfl rfl dX8_wrong_37 ?_
      refine s_callVi B hsc (c_X2_lostCrosses l D g an kd ka ho fa si kn aw n ev cr tr lw td z q ) (gw_V ml_X8_165 im_yX2_lostCrosses se_yX2_lostCrosses ini_RX2 co_yX2_lostCrosses) hd_X2_lostCrosses rfl rfl ⟨(Nat.le_of_ble_eq_true rfl), (Nat.le_of_ble_eq_true rfl)⟩ [1, 2, 3, 4, 5, 6, 7, 8, 9, 10, 11, 12, 13] [0, 1, 2, 3, 4] rfl rfl rfl (ci := 2) (q0 := 0) rfl rfl rfl rfl rfl (Nat.le_of_ble_eq_true rfl) dX8_wrong_40 (fun r_3 u_4 hpo => ?_)
      obtain ⟨rfl, rfl⟩ := hpo
      refine s_st (st' := [.int (mSumI (fun d => mPop (tr d &&& (cr d ^^^ (-1)))) 40)]) rfl ?_
      refine s_ws (ws' := [(bo, .inr (8, [.ref (an 0), .ref (ak 0), .int ik, .ref (bT), .ref (hT), .ref (ar 0), .ref (bS), .ref (bV), .ref (th 0)])), (an 0, .inr (2, [.ref (an 1), .ref (an 2), .ref (an 3), .ref (an 4), .ref (an 5), .ref (an 6), .ref (an 7), .int (nI n), .ref (an 8), .ref (an 9), .ref (an 10), .ref (an 11), .int (nI td), .int z, .ref (an 12)])), (an 1, .inl (g 0, 8, .inl kd)), (an 2, .inl (g 0, 8, .inl ka)), (an 3, .inl (g 0, 8, .inl ho)), (an 4, .inl (g 0, 8, .inl fa)), (an 5, .inl (g 0, 8, .inl si)), (an 6, .inl (g 0, 8, .inl kn)), (an 7, .inl (g 0, 8, .inl aw)), (an 8, .inl (g 0, 40, .inl ev)), (an 9, .inl (g 0, 40, .inl cr)), (an 10, .inl (g 0, 40, .inl tr)), (an 11, .inl (g 0, 4, .inl lw)), (an 12, .inr (0, [.int (q 0), .int (q 1), .int (q 2), .int (q 3), .int (q 4), .int (q 5), .int (q 6), .int (q 7), .int (q 8)]))]) rfl ?_
      refine s_iret B hQ hr dX8_wrong_43 rfl ?_
      exact ⟨(by clear hQ B hr hsc; show _ = (if w0 = 0 then _ else if w0 = 1 then _ else if w0 = 2 then _ else _); grind), rfl⟩
    · by_cases k1_2 : w0 = 2
      · refine s_tableIn (off := 43) (tgt := 44) B dX8_wrong_1 (by rw [k1_2]; decide) (by rw [k1_2]; decide) (by rw [k1_2]; rfl) rfl ?_
        refine s_aload_n B dX8_wrong_44 rfl 0 rfl ?_
        refine s_get (T := TX8) B inX8 0 rfl rfl 0 (Nat.le_of_ble_eq_true rfl) fl_X8_10 rfl rfl dX8_wrong_45 ?_
        refine s_callVi B hsc (c_X2_firstWrongDay l D g an kd ka ho fa si kn aw n ev cr tr lw td z q ) (gw_V ml_X8_168 im_yX2_firstWrongDay se_yX2_firstWrongDay ini_RX2 co_yX2_firstWrongDay) hd_X2_firstWrongDay rfl rfl ⟨(Nat.le_of_ble_eq_true rfl), (Nat.le_of_ble_eq_true rfl)⟩ [1, 2, 3, 4, 5, 6, 7, 8, 9, 10, 11, 12, 13] [0, 1, 2, 3, 4] rfl rfl rfl (ci := 2) (q0 := 0) rfl rfl rfl rfl rfl (Nat.le_of_ble_eq_true rfl) dX8_wrong_48 (fun r_5 u_6 hpo => ?_)
        obtain ⟨rfl, rfl⟩ := hpo
        refine s_st (st' := [.int (mFirst (fun d => decide (¬ cr d = tr d)) (-9) 40)]) rfl ?_
        refine s_ws (ws' := [(bo, .inr (8, [.ref (an 0), .ref (ak 0), .int ik, .ref (bT), .ref (hT), .ref (ar 0), .ref (bS), .ref (bV), .ref (th 0)])), (an 0, .inr (2, [.ref (an 1), .ref (an 2), .ref (an 3), .ref (an 4), .ref (an 5), .ref (an 6), .ref (an 7), .int (nI n), .ref (an 8), .ref (an 9), .ref (an 10), .ref (an 11), .int (nI td), .int z, .ref (an 12)])), (an 1, .inl (g 0, 8, .inl kd)), (an 2, .inl (g 0, 8, .inl ka)), (an 3, .inl (g 0, 8, .inl ho)), (an 4, .inl (g 0, 8, .inl fa)), (an 5, .inl (g 0, 8, .inl si)), (an 6, .inl (g 0, 8, .inl kn)), (an 7, .inl (g 0, 8, .inl aw)), (an 8, .inl (g 0, 40, .inl ev)), (an 9, .inl (g 0, 40, .inl cr)), (an 10, .inl (g 0, 40, .inl tr)), (an 11, .inl (g 0, 4, .inl lw)), (an 12, .inr (0, [.int (q 0), .int (q 1), .int (q 2), .int (q 3), .int (q 4), .int (q 5), .int (q 6), .int (q 7), .int (q 8)]))]) rfl ?_
        refine s_iret B hQ hr dX8_wrong_51 rfl ?_
        exact ⟨(by clear hQ B hr hsc; show _ = (if w0 = 0 then _ else if w0 = 1 then _ else if w0 = 2 then _ else _); grind), rfl⟩
      · refine s_tableOut (tgt := 52) B dX8_wrong_1 (by have q0 := lv_neT k1_0 (show (0 : Int32).toInt = 0 from by decide); have q1 := lv_neT k1_1 (show (1 : Int32).toInt = 1 from by decide); have q2 := lv_neT k1_2 (show (2 : Int32).toInt = 2 from by decide); omega) rfl ?_
        refine s_iconst B dX8_wrong_52 ic_m1 ?_
        refine s_iret B hQ hr dX8_wrong_53 rfl ?_
        exact ⟨(by clear hQ B hr hsc; show _ = (if w0 = 0 then _ else if w0 = 1 then _ else if w0 = 2 then _ else _); grind), rfl⟩
def rmX8_longest : Room := { frames := 2, cells := 0, slots := 0, locals := 84 }
theorem hd_X8_longest : yX8_longest.cls = RX8 ∧ yX8_longest.cls ≠ "java/lang/invoke/MethodHandle" ∧ yX8_longest.cls ≠ "java/lang/invoke/VarHandle" ∧ (parseMethodDescriptor yX8_longest.desc).map (fun d => d.parameters.length) = some 1 := by decide +kernel
set_option maxHeartbeats 4000000 in
set_option maxRecDepth 100000 in
theorem c_X8_longest (l : Launch) (D : va_G) (g : Nat → ClassId) (bo : Nat) (an : Nat → Nat) (ak : Nat → Nat) (bT : Nat) (hT : Nat) (ar : Nat → Nat) (bS : Nat) (bV : Nat) (th : Nat → Nat) (ik : Int32) (n : Nat) (td : Nat) (z : Int32) (kd : Nat → Int32) (ka : Nat → Int32) (ho : Nat → Int32) (fa : Nat → Int32) (si : Nat → Int32) (kn : Nat → Int32) (aw : Nat → Int32) (ev : Nat → Int32) (cr : Nat → Int32) (tr : Nat → Int32) (lw : Nat → Int32) (q : Nat → Int32) (c0 : Int32)  (hb_n : n ≤ 8) (hb_td : td ≤ 40) : Ci l yX8_longest (WW yX8_longest cX8_longest 2 (some FieldType.int)) rmX8_longest D vwCl (TY g) [.ref bo, .int c0] [(bo, .inr (8, [.ref (an 0), .ref (ak 0), .int ik, .ref (bT), .ref (hT), .ref (ar 0), .ref (bS), .ref (bV), .ref (th 0)])), (an 0, .inr (2, [.ref (an 1), .ref (an 2), .ref (an 3), .ref (an 4), .ref (an 5), .ref (an 6), .ref (an 7), .int (nI n), .ref (an 8), .ref (an 9), .ref (an 10), .ref (an 11), .int (nI td), .int z, .ref (an 12)])), (an 1, .inl (g 0, 8, .inl kd)), (an 2, .inl (g 0, 8, .inl ka)), (an 3, .inl (g 0, 8, .inl ho)), (an 4, .inl (g 0, 8, .inl fa)), (an 5, .inl (g 0, 8, .inl si)), (an 6, .inl (g 0, 8, .inl kn)), (an 7, .inl (g 0, 8, .inl aw)), (an 8, .inl (g 0, 40, .inl ev)), (an 9, .inl (g 0, 40, .inl cr)), (an 10, .inl (g 0, 40, .inl tr)), (an 11, .inl (g 0, 4, .inl lw)), (an 12, .inr (0, [.int (q 0), .int (q 1), .int (q 2), .int (q 3), .int (q 4), .int (q 5), .int (q 6), .int (q 7), .int (q 8)]))] (fun r u => (r = aLongest c0 (n, kd, ka, ho, fa, si, kn, aw, ev, cr, tr, lw, td, z)) ∧ u = [(bo, .inr (8, [.ref (an 0), .ref (ak 0), .int ik, .ref (bT), .ref (hT), .ref (ar 0), .ref (bS), .ref (bV), .ref (th 0)])), (an 0, .inr (2, [.ref (an 1), .ref (an 2), .ref (an 3), .ref (an 4), .ref (an 5), .ref (an 6), .ref (an 7), .int (nI n), .ref (an 8), .ref (an 9), .ref (an 10), .ref (an 11), .int (nI td), .int z, .ref (an 12)])), (an 1, .inl (g 0, 8, .inl kd)), (an 2, .inl (g 0, 8, .inl ka)), (an 3, .inl (g 0, 8, .inl ho)), (an 4, .inl (g 0, 8, .inl fa)), (an 5, .inl (g 0, 8, .inl si)), (an 6, .inl (g 0, 8, .inl kn)), (an 7, .inl (g 0, 8, .inl aw)), (an 8, .inl (g 0, 40, .inl ev)), (an 9, .inl (g 0, 40, .inl cr)), (an 10, .inl (g 0, 40, .inl tr)), (an 11, .inl (g 0, 4, .inl lw)), (an 12, .inr (0, [.int (q 0), .int (q 1), .int (q 2), .int (q 3), .int (q 4), .int (q 5), .int (q 6), .int (q 7), .int (q 8)]))]) := by
  refine ci_in (by decide) (Nat.le_of_ble_eq_true rfl) (a0 := [bo, an 0, an 1, an 2, an 3, an 4, an 5, an 6, an 7, an 8, an 9, an 10, an 11, an 12]) rfl (fun p e s m args below meth c A Q hQ B hr hsc => ?_)
  refine s_aload_n B dX8_longest_0 rfl 0 rfl ?_
  refine s_get (T := TX8) B inX8 0 rfl rfl 0 (Nat.le_of_ble_eq_true rfl) fl_X8_10 rfl rfl dX8_longest_1 ?_
  refine s_iload_n B dX8_longest_4 rfl 1 rfl ?_
  refine s_callVi B hsc (c_X2_hasChild l D g an kd ka ho fa si kn aw n ev cr tr lw td z q c0) (gw_V ml_X8_102 im_yX2_hasChild se_yX2_hasChild ini_RX2 co_yX2_hasChild) hd_X2_hasChild rfl rfl ⟨(Nat.le_of_ble_eq_true rfl), (Nat.le_of_ble_eq_true rfl)⟩ [1, 2, 3, 4, 5, 6, 7, 8, 9, 10, 11, 12, 13] [0, 1, 2, 3, 4] rfl rfl rfl (ci := 2) (q0 := 0) rfl rfl rfl rfl rfl (Nat.le_of_ble_eq_true rfl) dX8_longest_5 (fun r_1 u_2 hpo => ?_)
  obtain ⟨rfl, rfl⟩ := hpo
  refine s_st (st' := [.int (if ¬ c0 < 0 ∧ c0 < nI n then 1 else 0)]) rfl ?_
  refine s_ws (ws' := [(bo, .inr (8, [.ref (an 0), .ref (ak 0), .int ik, .ref (bT), .ref (hT), .ref (ar 0), .ref (bS), .ref (bV), .ref (th 0)])), (an 0, .inr (2, [.ref (an 1), .ref (an 2), .ref (an 3), .ref (an 4), .ref (an 5), .ref (an 6), .ref (an 7), .int (nI n), .ref (an 8), .ref (an 9), .ref (an 10), .ref (an 11), .int (nI td), .int z, .ref (an 12)])), (an 1, .inl (g 0, 8, .inl kd)), (an 2, .inl (g 0, 8, .inl ka)), (an 3, .inl (g 0, 8, .inl ho)), (an 4, .inl (g 0, 8, .inl fa)), (an 5, .inl (g 0, 8, .inl si)), (an 6, .inl (g 0, 8, .inl kn)), (an 7, .inl (g 0, 8, .inl aw)), (an 8, .inl (g 0, 40, .inl ev)), (an 9, .inl (g 0, 40, .inl cr)), (an 10, .inl (g 0, 40, .inl tr)), (an 11, .inl (g 0, 4, .inl lw)), (an 12, .inr (0, [.int (q 0), .int (q 1), .int (q 2), .int (q 3), .int (q 4), .int (q 5), .int (q 6), .int (q 7), .int (q 8)]))]) rfl ?_
  refine s_bif_eq (tgt := 22) B dX8_longest_8 rfl (fun h8 => ?_) (fun h8 => ?_)
  · refine s_iconst B dX8_longest_22 ic_m1 ?_
    refine s_iret B hQ hr dX8_longest_23 rfl ?_
    exact ⟨(cg_longest_no (G := (n, kd, ka, ho, fa, si, kn, aw, ev, cr, tr, lw, td, z)) h8), rfl⟩
  · obtain ⟨k_3, hk_4, rfl⟩ := nat_lt2 (N := n) h8.1 h8.2 (by omega)
    refine s_aload_n B dX8_longest_11 rfl 0 rfl ?_
    refine s_get (T := TX8) B inX8 0 rfl rfl 0 (Nat.le_of_ble_eq_true rfl) fl_X8_10 rfl rfl dX8_longest_12 ?_
    refine s_iload_n B dX8_longest_15 rfl 1 rfl ?_
    refine s_callVi B hsc (c_X2_longestWithoutCross l D g an kd ka ho fa si kn aw n ev cr tr lw td z q (nI k_3) (by omega)) (gw_V ml_X8_171 im_yX2_longestWithoutCross se_yX2_longestWithoutCross ini_RX2 co_yX2_longestWithoutCross) hd_X2_longestWithoutCross rfl rfl ⟨(Nat.le_of_ble_eq_true rfl), (Nat.le_of_ble_eq_true rfl)⟩ [1, 2, 3, 4, 5, 6, 7, 8, 9, 10, 11, 12, 13] [0, 1, 2, 3, 4] rfl rfl rfl (ci := 2) (q0 := 0) rfl rfl rfl rfl rfl (Nat.le_of_ble_eq_true rfl) dX8_longest_16 (fun r_5 u_6 hpo => ?_)
    obtain ⟨rfl, rfl⟩ := hpo
    refine s_st (st' := [.int (mMost (fun d => mBitI (cr d) (nI k_3)) td)]) rfl ?_
    refine s_ws (ws' := [(bo, .inr (8, [.ref (an 0), .ref (ak 0), .int ik, .ref (bT), .ref (hT), .ref (ar 0), .ref (bS), .ref (bV), .ref (th 0)])), (an 0, .inr (2, [.ref (an 1), .ref (an 2), .ref (an 3), .ref (an 4), .ref (an 5), .ref (an 6), .ref (an 7), .int (nI n), .ref (an 8), .ref (an 9), .ref (an 10), .ref (an 11), .int (nI td), .int z, .ref (an 12)])), (an 1, .inl (g 0, 8, .inl kd)), (an 2, .inl (g 0, 8, .inl ka)), (an 3, .inl (g 0, 8, .inl ho)), (an 4, .inl (g 0, 8, .inl fa)), (an 5, .inl (g 0, 8, .inl si)), (an 6, .inl (g 0, 8, .inl kn)), (an 7, .inl (g 0, 8, .inl aw)), (an 8, .inl (g 0, 40, .inl ev)), (an 9, .inl (g 0, 40, .inl cr)), (an 10, .inl (g 0, 40, .inl tr)), (an 11, .inl (g 0, 4, .inl lw)), (an 12, .inr (0, [.int (q 0), .int (q 1), .int (q 2), .int (q 3), .int (q 4), .int (q 5), .int (q 6), .int (q 7), .int (q 8)]))]) rfl ?_
    refine s_goto (tgt := 23) B dX8_longest_19 rfl ?_
    refine s_iret B hQ hr dX8_longest_23 rfl ?_
    exact ⟨(cg_longest_ok (G := (n, kd, ka, ho, fa, si, kn, aw, ev, cr, tr, lw, td, z)) (by omega) hb_n), rfl⟩
def rmX8_fits : Room := { frames := 3, cells := 0, slots := 0, locals := 75 }
theorem hd_X8_fits : yX8_fits.cls = RX8 ∧ yX8_fits.cls ≠ "java/lang/invoke/MethodHandle" ∧ yX8_fits.cls ≠ "java/lang/invoke/VarHandle" ∧ (parseMethodDescriptor yX8_fits.desc).map (fun d => d.parameters.length) = some 1 := by decide +kernel
set_option maxHeartbeats 4000000 in
set_option maxRecDepth 100000 in
theorem c_X8_fits (l : Launch) (D : va_G) (g : Nat → ClassId) (bo : Nat) (an : Nat → Nat) (ak : Nat → Nat) (bT : Nat) (hT : Nat) (ar : Nat → Nat) (bS : Nat) (bV : Nat) (th : Nat → Nat) (ik : Int32) (n : Nat) (td : Nat) (z : Int32) (kd : Nat → Int32) (ka : Nat → Int32) (ho : Nat → Int32) (fa : Nat → Int32) (si : Nat → Int32) (kn : Nat → Int32) (aw : Nat → Int32) (ev : Nat → Int32) (cr : Nat → Int32) (tr : Nat → Int32) (lw : Nat → Int32) (q : Nat → Int32) (c0 : Int32)  (hb_n : n ≤ 8) (hb_td : td ≤ 40) : Ci l yX8_fits (WW yX8_fits cX8_fits 2 (some FieldType.int)) rmX8_fits D vwCl (TY g) [.ref bo, .int c0] [(bo, .inr (8, [.ref (an 0), .ref (ak 0), .int ik, .ref (bT), .ref (hT), .ref (ar 0), .ref (bS), .ref (bV), .ref (th 0)])), (an 0, .inr (2, [.ref (an 1), .ref (an 2), .ref (an 3), .ref (an 4), .ref (an 5), .ref (an 6), .ref (an 7), .int (nI n), .ref (an 8), .ref (an 9), .ref (an 10), .ref (an 11), .int (nI td), .int z, .ref (an 12)])), (an 1, .inl (g 0, 8, .inl kd)), (an 2, .inl (g 0, 8, .inl ka)), (an 3, .inl (g 0, 8, .inl ho)), (an 4, .inl (g 0, 8, .inl fa)), (an 5, .inl (g 0, 8, .inl si)), (an 6, .inl (g 0, 8, .inl kn)), (an 7, .inl (g 0, 8, .inl aw)), (an 8, .inl (g 0, 40, .inl ev)), (an 9, .inl (g 0, 40, .inl cr)), (an 10, .inl (g 0, 40, .inl tr)), (an 11, .inl (g 0, 4, .inl lw)), (an 12, .inr (0, [.int (q 0), .int (q 1), .int (q 2), .int (q 3), .int (q 4), .int (q 5), .int (q 6), .int (q 7), .int (q 8)]))] (fun r u => ∃ (q' : Nat → Int32), (r = aFits c0 (n, kd, ka, ho, fa, si, kn, aw, ev, cr, tr, lw, td, z)) ∧ u = [(bo, .inr (8, [.ref (an 0), .ref (ak 0), .int ik, .ref (bT), .ref (hT), .ref (ar 0), .ref (bS), .ref (bV), .ref (th 0)])), (an 0, .inr (2, [.ref (an 1), .ref (an 2), .ref (an 3), .ref (an 4), .ref (an 5), .ref (an 6), .ref (an 7), .int (nI n), .ref (an 8), .ref (an 9), .ref (an 10), .ref (an 11), .int (nI td), .int z, .ref (an 12)])), (an 1, .inl (g 0, 8, .inl kd)), (an 2, .inl (g 0, 8, .inl ka)), (an 3, .inl (g 0, 8, .inl ho)), (an 4, .inl (g 0, 8, .inl fa)), (an 5, .inl (g 0, 8, .inl si)), (an 6, .inl (g 0, 8, .inl kn)), (an 7, .inl (g 0, 8, .inl aw)), (an 8, .inl (g 0, 40, .inl ev)), (an 9, .inl (g 0, 40, .inl cr)), (an 10, .inl (g 0, 40, .inl tr)), (an 11, .inl (g 0, 4, .inl lw)), (an 12, .inr (0, [.int (q' 0), .int (q' 1), .int (q' 2), .int (q' 3), .int (q' 4), .int (q' 5), .int (q' 6), .int (q' 7), .int (q' 8)]))]) := by
  refine ci_in (by decide) (Nat.le_of_ble_eq_true rfl) (a0 := [bo, an 0, an 1, an 2, an 3, an 4, an 5, an 6, an 7, an 8, an 9, an 10, an 11, an 12]) rfl (fun p e s m args below meth c A Q hQ B hr hsc => ?_)
  refine s_aload_n B dX8_fits_0 rfl 0 rfl ?_
  refine s_get (T := TX8) B inX8 0 rfl rfl 0 (Nat.le_of_ble_eq_true rfl) fl_X8_10 rfl rfl dX8_fits_1 ?_
  refine s_iload_n B dX8_fits_4 rfl 1 rfl ?_
  refine s_callVi B hsc (c_X2_hasChild l D g an kd ka ho fa si kn aw n ev cr tr lw td z q c0) (gw_V ml_X8_102 im_yX2_hasChild se_yX2_hasChild ini_RX2 co_yX2_hasChild) hd_X2_hasChild rfl rfl ⟨(Nat.le_of_ble_eq_true rfl), (Nat.le_of_ble_eq_true rfl)⟩ [1, 2, 3, 4, 5, 6, 7, 8, 9, 10, 11, 12, 13] [0, 1, 2, 3, 4] rfl rfl rfl (ci := 2) (q0 := 0) rfl rfl rfl rfl rfl (Nat.le_of_ble_eq_true rfl) dX8_fits_5 (fun r_1 u_2 hpo => ?_)
  obtain ⟨rfl, rfl⟩ := hpo
  refine s_st (st' := [.int (if ¬ c0 < 0 ∧ c0 < nI n then 1 else 0)]) rfl ?_
  refine s_ws (ws' := [(bo, .inr (8, [.ref (an 0), .ref (ak 0), .int ik, .ref (bT), .ref (hT), .ref (ar 0), .ref (bS), .ref (bV), .ref (th 0)])), (an 0, .inr (2, [.ref (an 1), .ref (an 2), .ref (an 3), .ref (an 4), .ref (an 5), .ref (an 6), .ref (an 7), .int (nI n), .ref (an 8), .ref (an 9), .ref (an 10), .ref (an 11), .int (nI td), .int z, .ref (an 12)])), (an 1, .inl (g 0, 8, .inl kd)), (an 2, .inl (g 0, 8, .inl ka)), (an 3, .inl (g 0, 8, .inl ho)), (an 4, .inl (g 0, 8, .inl fa)), (an 5, .inl (g 0, 8, .inl si)), (an 6, .inl (g 0, 8, .inl kn)), (an 7, .inl (g 0, 8, .inl aw)), (an 8, .inl (g 0, 40, .inl ev)), (an 9, .inl (g 0, 40, .inl cr)), (an 10, .inl (g 0, 40, .inl tr)), (an 11, .inl (g 0, 4, .inl lw)), (an 12, .inr (0, [.int (q 0), .int (q 1), .int (q 2), .int (q 3), .int (q 4), .int (q 5), .int (q 6), .int (q 7), .int (q 8)]))]) rfl ?_
  refine s_bif_eq (tgt := 22) B dX8_fits_8 rfl (fun h8 => ?_) (fun h8 => ?_)
  · refine s_iconst B dX8_fits_22 ic_m1 ?_
    refine s_iret B hQ hr dX8_fits_23 rfl ?_
    exact ⟨q, (cg_fits_no (G := (n, kd, ka, ho, fa, si, kn, aw, ev, cr, tr, lw, td, z)) h8), rfl⟩
  · obtain ⟨k_3, hk_4, rfl⟩ := nat_lt2 (N := n) h8.1 h8.2 (by omega)
    refine s_aload_n B dX8_fits_11 rfl 0 rfl ?_
    refine s_get (T := TX8) B inX8 0 rfl rfl 0 (Nat.le_of_ble_eq_true rfl) fl_X8_10 rfl rfl dX8_fits_12 ?_
    refine s_iload_n B dX8_fits_15 rfl 1 rfl ?_
    refine s_callVi B hsc (c_X2_kindsByBook l D g an kd ka ho fa si kn aw n ev cr tr lw td z q k_3 (by omega) (by omega)) (gw_V ml_X8_194 im_yX2_kindsByBook se_yX2_kindsByBook ini_RX2 co_yX2_kindsByBook) hd_X2_kindsByBook rfl rfl ⟨(Nat.le_of_ble_eq_true rfl), (Nat.le_of_ble_eq_true rfl)⟩ [1, 2, 3, 4, 5, 6, 7, 8, 9, 10, 11, 12, 13] [0, 1, 2, 3, 4] rfl rfl rfl (ci := 2) (q0 := 0) rfl rfl rfl rfl rfl (Nat.le_of_ble_eq_true rfl) dX8_fits_16 (fun r_5 u_6 hpo => ?_)
    obtain ⟨rfl, q_7, rfl⟩ := hpo
    refine s_st (st' := [.int (mKinds (fun x j => mOfKind cr ev k_3 (fa k_3) (lw 1) (nI x) (nI j) td) 6)]) rfl ?_
    refine s_ws (ws' := [(bo, .inr (8, [.ref (an 0), .ref (ak 0), .int ik, .ref (bT), .ref (hT), .ref (ar 0), .ref (bS), .ref (bV), .ref (th 0)])), (an 0, .inr (2, [.ref (an 1), .ref (an 2), .ref (an 3), .ref (an 4), .ref (an 5), .ref (an 6), .ref (an 7), .int (nI n), .ref (an 8), .ref (an 9), .ref (an 10), .ref (an 11), .int (nI td), .int z, .ref (an 12)])), (an 1, .inl (g 0, 8, .inl kd)), (an 2, .inl (g 0, 8, .inl ka)), (an 3, .inl (g 0, 8, .inl ho)), (an 4, .inl (g 0, 8, .inl fa)), (an 5, .inl (g 0, 8, .inl si)), (an 6, .inl (g 0, 8, .inl kn)), (an 7, .inl (g 0, 8, .inl aw)), (an 8, .inl (g 0, 40, .inl ev)), (an 9, .inl (g 0, 40, .inl cr)), (an 10, .inl (g 0, 40, .inl tr)), (an 11, .inl (g 0, 4, .inl lw)), (an 12, .inr (0, [.int (q_7 0), .int (q_7 1), .int (q_7 2), .int (q_7 3), .int (q_7 4), .int (q_7 5), .int (q_7 6), .int (q_7 7), .int (q_7 8)]))]) rfl ?_
    refine s_goto (tgt := 23) B dX8_fits_19 rfl ?_
    refine s_iret B hQ hr dX8_fits_23 rfl ?_
    exact ⟨q_7, (cg_fits_ok (G := (n, kd, ka, ho, fa, si, kn, aw, ev, cr, tr, lw, td, z)) (by omega) hb_n), rfl⟩
def rmX8_seed : Room := { frames := 0, cells := 0, slots := 0, locals := 0 }
theorem hd_X8_seed : yX8_seed.cls = RX8 ∧ yX8_seed.cls ≠ "java/lang/invoke/MethodHandle" ∧ yX8_seed.cls ≠ "java/lang/invoke/VarHandle" ∧ (parseMethodDescriptor yX8_seed.desc).map (fun d => d.parameters.length) = some 1 := by decide +kernel
set_option maxHeartbeats 4000000 in
set_option maxRecDepth 100000 in
theorem c_X8_seed (l : Launch) (D : va_G) (g : Nat → ClassId) (bo : Nat) (an : Nat → Nat) (ak : Nat → Nat) (bT : Nat) (hT : Nat) (ar : Nat → Nat) (bS : Nat) (bV : Nat) (th : Nat → Nat) (ik : Int32) (n : Nat) (td : Nat) (z : Int32) (kd : Nat → Int32) (ka : Nat → Int32) (ho : Nat → Int32) (fa : Nat → Int32) (si : Nat → Int32) (kn : Nat → Int32) (aw : Nat → Int32) (ev : Nat → Int32) (cr : Nat → Int32) (tr : Nat → Int32) (lw : Nat → Int32) (q : Nat → Int32) (x0 : Int32)  (hb_n : n ≤ 8) (hb_td : td ≤ 40) : Ci l yX8_seed (WW yX8_seed cX8_seed 3 (some FieldType.int)) rmX8_seed D vwCl (TY g) [.ref bo, .int x0] [(bo, .inr (8, [.ref (an 0), .ref (ak 0), .int ik, .ref (bT), .ref (hT), .ref (ar 0), .ref (bS), .ref (bV), .ref (th 0)])), (an 0, .inr (2, [.ref (an 1), .ref (an 2), .ref (an 3), .ref (an 4), .ref (an 5), .ref (an 6), .ref (an 7), .int (nI n), .ref (an 8), .ref (an 9), .ref (an 10), .ref (an 11), .int (nI td), .int z, .ref (an 12)])), (an 1, .inl (g 0, 8, .inl kd)), (an 2, .inl (g 0, 8, .inl ka)), (an 3, .inl (g 0, 8, .inl ho)), (an 4, .inl (g 0, 8, .inl fa)), (an 5, .inl (g 0, 8, .inl si)), (an 6, .inl (g 0, 8, .inl kn)), (an 7, .inl (g 0, 8, .inl aw)), (an 8, .inl (g 0, 40, .inl ev)), (an 9, .inl (g 0, 40, .inl cr)), (an 10, .inl (g 0, 40, .inl tr)), (an 11, .inl (g 0, 4, .inl lw)), (an 12, .inr (0, [.int (q 0), .int (q 1), .int (q 2), .int (q 3), .int (q 4), .int (q 5), .int (q 6), .int (q 7), .int (q 8)]))] (fun r u => ∃ (z' : Int32), (((n, kd, ka, ho, fa, si, kn, aw, ev, cr, tr, lw, td, z') : MG) = gSeed x0 (n, kd, ka, ho, fa, si, kn, aw, ev, cr, tr, lw, td, z) ∧ r = gZ (n, kd, ka, ho, fa, si, kn, aw, ev, cr, tr, lw, td, z)) ∧ u = [(bo, .inr (8, [.ref (an 0), .ref (ak 0), .int ik, .ref (bT), .ref (hT), .ref (ar 0), .ref (bS), .ref (bV), .ref (th 0)])), (an 0, .inr (2, [.ref (an 1), .ref (an 2), .ref (an 3), .ref (an 4), .ref (an 5), .ref (an 6), .ref (an 7), .int (nI n), .ref (an 8), .ref (an 9), .ref (an 10), .ref (an 11), .int (nI td), .int z', .ref (an 12)])), (an 1, .inl (g 0, 8, .inl kd)), (an 2, .inl (g 0, 8, .inl ka)), (an 3, .inl (g 0, 8, .inl ho)), (an 4, .inl (g 0, 8, .inl fa)), (an 5, .inl (g 0, 8, .inl si)), (an 6, .inl (g 0, 8, .inl kn)), (an 7, .inl (g 0, 8, .inl aw)), (an 8, .inl (g 0, 40, .inl ev)), (an 9, .inl (g 0, 40, .inl cr)), (an 10, .inl (g 0, 40, .inl tr)), (an 11, .inl (g 0, 4, .inl lw)), (an 12, .inr (0, [.int (q 0), .int (q 1), .int (q 2), .int (q 3), .int (q 4), .int (q 5), .int (q 6), .int (q 7), .int (q 8)]))]) := by
  refine ci_in (by decide) (Nat.le_of_ble_eq_true rfl) (a0 := [bo, an 0, an 1, an 2, an 3, an 4, an 5, an 6, an 7, an 8, an 9, an 10, an 11, an 12]) rfl (fun p e s m args below meth c A Q hQ B hr hsc => ?_)
  refine s_aload_n B dX8_seed_0 rfl 0 rfl ?_
  refine s_get (T := TX8) B inX8 0 rfl rfl 0 (Nat.le_of_ble_eq_true rfl) fl_X8_10 rfl rfl dX8_seed_1 ?_
  refine s_get (T := TX2) B inX2 1 rfl rfl 13 (Nat.le_of_ble_eq_true rfl) fl_X8_197 rfl rfl dX8_seed_4 ?_
  refine s_istore_n (lv' := [(2, _), (0, _), (1, _)]) B dX8_seed_7 rfl (Nat.le_of_ble_eq_true rfl) rfl ?_
  refine s_aload_n B dX8_seed_8 rfl 1 rfl ?_
  refine s_get (T := TX8) B inX8 0 rfl rfl 0 (Nat.le_of_ble_eq_true rfl) fl_X8_10 rfl rfl dX8_seed_9 ?_
  refine s_iload_n B dX8_seed_12 rfl 2 rfl ?_
  refine s_put (T := TX2) (ws' := [_, _, _, _, _, _, _, _, _, _, _, _, _, _]) B inX2 tyX2_ok nmX2 1 rfl rfl 13 (Nat.le_of_ble_eq_true rfl) fl_X8_197 rfl rfl rfl rfl (Nat.le_of_ble_eq_true rfl) rfl dX8_seed_13 ?_
  refine s_iload_n B dX8_seed_16 rfl 0 rfl ?_
  refine s_iret B hQ hr dX8_seed_17 rfl ?_
  exact ⟨x0, ⟨rfl, rfl⟩, rfl⟩
def rmX8_draw : Room := { frames := 3, cells := 0, slots := 0, locals := 67 }
theorem hd_X8_draw : yX8_draw.cls = RX8 ∧ yX8_draw.cls ≠ "java/lang/invoke/MethodHandle" ∧ yX8_draw.cls ≠ "java/lang/invoke/VarHandle" ∧ (parseMethodDescriptor yX8_draw.desc).map (fun d => d.parameters.length) = some 0 := by decide +kernel
set_option maxHeartbeats 4000000 in
set_option maxRecDepth 100000 in
theorem c_X8_draw (l : Launch) (D : va_G) (g : Nat → ClassId) (bo : Nat) (an : Nat → Nat) (ak : Nat → Nat) (bT : Nat) (hT : Nat) (ar : Nat → Nat) (bS : Nat) (bV : Nat) (th : Nat → Nat) (ik : Int32) (n : Nat) (td : Nat) (z : Int32) (kd : Nat → Int32) (ka : Nat → Int32) (ho : Nat → Int32) (fa : Nat → Int32) (si : Nat → Int32) (kn : Nat → Int32) (aw : Nat → Int32) (ev : Nat → Int32) (cr : Nat → Int32) (tr : Nat → Int32) (lw : Nat → Int32) (q : Nat → Int32)  (hb_n : n ≤ 8) (hb_td : td ≤ 40) : Ci l yX8_draw (WW yX8_draw cX8_draw 1 (some FieldType.int)) rmX8_draw D vwCl (TY g) [.ref bo] [(bo, .inr (8, [.ref (an 0), .ref (ak 0), .int ik, .ref (bT), .ref (hT), .ref (ar 0), .ref (bS), .ref (bV), .ref (th 0)])), (an 0, .inr (2, [.ref (an 1), .ref (an 2), .ref (an 3), .ref (an 4), .ref (an 5), .ref (an 6), .ref (an 7), .int (nI n), .ref (an 8), .ref (an 9), .ref (an 10), .ref (an 11), .int (nI td), .int z, .ref (an 12)])), (an 1, .inl (g 0, 8, .inl kd)), (an 2, .inl (g 0, 8, .inl ka)), (an 3, .inl (g 0, 8, .inl ho)), (an 4, .inl (g 0, 8, .inl fa)), (an 5, .inl (g 0, 8, .inl si)), (an 6, .inl (g 0, 8, .inl kn)), (an 7, .inl (g 0, 8, .inl aw)), (an 8, .inl (g 0, 40, .inl ev)), (an 9, .inl (g 0, 40, .inl cr)), (an 10, .inl (g 0, 40, .inl tr)), (an 11, .inl (g 0, 4, .inl lw)), (an 12, .inr (0, [.int (q 0), .int (q 1), .int (q 2), .int (q 3), .int (q 4), .int (q 5), .int (q 6), .int (q 7), .int (q 8)]))] (fun r u => ∃ (z' : Int32) (q' : Nat → Int32), (((n, kd, ka, ho, fa, si, kn, aw, ev, cr, tr, lw, td, z') : MG) = gDraw (n, kd, ka, ho, fa, si, kn, aw, ev, cr, tr, lw, td, z)) ∧ u = [(bo, .inr (8, [.ref (an 0), .ref (ak 0), .int ik, .ref (bT), .ref (hT), .ref (ar 0), .ref (bS), .ref (bV), .ref (th 0)])), (an 0, .inr (2, [.ref (an 1), .ref (an 2), .ref (an 3), .ref (an 4), .ref (an 5), .ref (an 6), .ref (an 7), .int (nI n), .ref (an 8), .ref (an 9), .ref (an 10), .ref (an 11), .int (nI td), .int z', .ref (an 12)])), (an 1, .inl (g 0, 8, .inl kd)), (an 2, .inl (g 0, 8, .inl ka)), (an 3, .inl (g 0, 8, .inl ho)), (an 4, .inl (g 0, 8, .inl fa)), (an 5, .inl (g 0, 8, .inl si)), (an 6, .inl (g 0, 8, .inl kn)), (an 7, .inl (g 0, 8, .inl aw)), (an 8, .inl (g 0, 40, .inl ev)), (an 9, .inl (g 0, 40, .inl cr)), (an 10, .inl (g 0, 40, .inl tr)), (an 11, .inl (g 0, 4, .inl lw)), (an 12, .inr (0, [.int (q' 0), .int (q' 1), .int (q' 2), .int (q' 3), .int (q' 4), .int (q' 5), .int (q' 6), .int (q' 7), .int (q' 8)]))]) := by
  refine ci_in (by decide) (Nat.le_of_ble_eq_true rfl) (a0 := [bo, an 0, an 1, an 2, an 3, an 4, an 5, an 6, an 7, an 8, an 9, an 10, an 11, an 12]) rfl (fun p e s m args below meth c A Q hQ B hr hsc => ?_)
  refine s_aload_n B dX8_draw_0 rfl 0 rfl ?_
  refine s_get (T := TX8) B inX8 0 rfl rfl 0 (Nat.le_of_ble_eq_true rfl) fl_X8_10 rfl rfl dX8_draw_1 ?_
  refine s_get (T := TX2) B inX2 1 rfl rfl 7 (Nat.le_of_ble_eq_true rfl) fl_X8_87 rfl rfl dX8_draw_4 ?_
  refine s_if_ne (tgt := 13) B dX8_draw_7 rfl (fun h7 => ?_) (fun h7 => ?_)
  · replace h7 : ¬ n = 0 := fun hh => h7 ((nI_eq (a := n) (b := 0) (by omega) (by omega)).mpr hh)
    refine s_aload_n B dX8_draw_13 rfl 0 rfl ?_
    refine s_get (T := TX8) B inX8 0 rfl rfl 0 (Nat.le_of_ble_eq_true rfl) fl_X8_10 rfl rfl dX8_draw_14 ?_
    refine s_callVi B hsc (c_X2_isOver l D g an kd ka ho fa si kn aw n ev cr tr lw td z q (by omega)) (gw_V ml_X8_143 im_yX2_isOver se_yX2_isOver ini_RX2 co_yX2_isOver) hd_X2_isOver rfl rfl ⟨(Nat.le_of_ble_eq_true rfl), (Nat.le_of_ble_eq_true rfl)⟩ [1, 2, 3, 4, 5, 6, 7, 8, 9, 10, 11, 12, 13] [0, 1, 2, 3, 4] rfl rfl rfl (ci := 2) (q0 := 0) rfl rfl rfl rfl rfl (Nat.le_of_ble_eq_true rfl) dX8_draw_17 (fun r_1 u_2 hpo => ?_)
    obtain ⟨rfl, rfl⟩ := hpo
    refine s_st (st' := [.int (if 40 ≤ td then 1 else 0)]) rfl ?_
    refine s_ws (ws' := [(bo, .inr (8, [.ref (an 0), .ref (ak 0), .int ik, .ref (bT), .ref (hT), .ref (ar 0), .ref (bS), .ref (bV), .ref (th 0)])), (an 0, .inr (2, [.ref (an 1), .ref (an 2), .ref (an 3), .ref (an 4), .ref (an 5), .ref (an 6), .ref (an 7), .int (nI n), .ref (an 8), .ref (an 9), .ref (an 10), .ref (an 11), .int (nI td), .int z, .ref (an 12)])), (an 1, .inl (g 0, 8, .inl kd)), (an 2, .inl (g 0, 8, .inl ka)), (an 3, .inl (g 0, 8, .inl ho)), (an 4, .inl (g 0, 8, .inl fa)), (an 5, .inl (g 0, 8, .inl si)), (an 6, .inl (g 0, 8, .inl kn)), (an 7, .inl (g 0, 8, .inl aw)), (an 8, .inl (g 0, 40, .inl ev)), (an 9, .inl (g 0, 40, .inl cr)), (an 10, .inl (g 0, 40, .inl tr)), (an 11, .inl (g 0, 4, .inl lw)), (an 12, .inr (0, [.int (q 0), .int (q 1), .int (q 2), .int (q 3), .int (q 4), .int (q 5), .int (q 6), .int (q 7), .int (q 8)]))]) rfl ?_
    refine s_bif_eq (tgt := 26) B dX8_draw_20 rfl (fun h20 => ?_) (fun h20 => ?_)
    · refine s_aload_n B dX8_draw_26 rfl 0 rfl ?_
      refine s_get (T := TX8) B inX8 0 rfl rfl 0 (Nat.le_of_ble_eq_true rfl) fl_X8_10 rfl rfl dX8_draw_27 ?_
      refine s_aload_n B dX8_draw_30 rfl 0 rfl ?_
      refine s_get (T := TX8) B inX8 0 rfl rfl 0 (Nat.le_of_ble_eq_true rfl) fl_X8_10 rfl rfl dX8_draw_31 ?_
      refine s_callVi B hsc (c_X2_thereToday l D g an kd ka ho fa si kn aw n ev cr tr lw td z q (by omega) (by omega)) (gw_V ml_X8_200 im_yX2_thereToday se_yX2_thereToday ini_RX2 co_yX2_thereToday) hd_X2_thereToday rfl rfl ⟨(Nat.le_of_ble_eq_true rfl), (Nat.le_of_ble_eq_true rfl)⟩ [1, 2, 3, 4, 5, 6, 7, 8, 9, 10, 11, 12, 13] [0, 1, 2, 3, 4] rfl rfl rfl (ci := 2) (q0 := 0) rfl rfl rfl rfl rfl (Nat.le_of_ble_eq_true rfl) dX8_draw_34 (fun r_3 u_4 hpo => ?_)
      obtain ⟨rfl, q_5, rfl⟩ := hpo
      refine s_st (st' := [.int (mThere kd ka fa si kn aw ev lw td n), .ref (an 0)]) rfl ?_
      refine s_ws (ws' := [(bo, .inr (8, [.ref (an 0), .ref (ak 0), .int ik, .ref (bT), .ref (hT), .ref (ar 0), .ref (bS), .ref (bV), .ref (th 0)])), (an 0, .inr (2, [.ref (an 1), .ref (an 2), .ref (an 3), .ref (an 4), .ref (an 5), .ref (an 6), .ref (an 7), .int (nI n), .ref (an 8), .ref (an 9), .ref (an 10), .ref (an 11), .int (nI td), .int z, .ref (an 12)])), (an 1, .inl (g 0, 8, .inl kd)), (an 2, .inl (g 0, 8, .inl ka)), (an 3, .inl (g 0, 8, .inl ho)), (an 4, .inl (g 0, 8, .inl fa)), (an 5, .inl (g 0, 8, .inl si)), (an 6, .inl (g 0, 8, .inl kn)), (an 7, .inl (g 0, 8, .inl aw)), (an 8, .inl (g 0, 40, .inl ev)), (an 9, .inl (g 0, 40, .inl cr)), (an 10, .inl (g 0, 40, .inl tr)), (an 11, .inl (g 0, 4, .inl lw)), (an 12, .inr (0, [.int (q_5 0), .int (q_5 1), .int (q_5 2), .int (q_5 3), .int (q_5 4), .int (q_5 5), .int (q_5 6), .int (q_5 7), .int (q_5 8)]))]) rfl ?_
      refine s_callVi B hsc (c_X2_drawFrom l D g an kd ka ho fa si kn aw n ev cr tr lw td z q_5 (mThere kd ka fa si kn aw ev lw td n) (by omega)) (gw_V ml_X8_203 im_yX2_drawFrom se_yX2_drawFrom ini_RX2 co_yX2_drawFrom) hd_X2_drawFrom rfl rfl ⟨(Nat.le_of_ble_eq_true rfl), (Nat.le_of_ble_eq_true rfl)⟩ [1, 2, 3, 4, 5, 6, 7, 8, 9, 10, 11, 12, 13] [0, 1, 2, 3, 4] rfl rfl rfl (ci := 2) (q0 := 0) rfl rfl rfl rfl rfl (Nat.le_of_ble_eq_true rfl) dX8_draw_37 (fun r_6 u_7 hpo => ?_)
      obtain ⟨-, hu⟩ := hpo
      have hu2 : u_7 = SchC g an kd ka ho fa si kn aw n ev cr tr lw td (if 0 < mPop (mThere kd ka fa si kn aw ev lw td n) then mZ z else z) q_5 := by rw [hu]; split <;> rfl
      clear hu; subst hu2
      refine s_ws (ws' := [(bo, .inr (8, [.ref (an 0), .ref (ak 0), .int ik, .ref (bT), .ref (hT), .ref (ar 0), .ref (bS), .ref (bV), .ref (th 0)])), (an 0, .inr (2, [.ref (an 1), .ref (an 2), .ref (an 3), .ref (an 4), .ref (an 5), .ref (an 6), .ref (an 7), .int (nI n), .ref (an 8), .ref (an 9), .ref (an 10), .ref (an 11), .int (nI td), .int (if 0 < mPop (mThere kd ka fa si kn aw ev lw td n) then mZ z else z), .ref (an 12)])), (an 1, .inl (g 0, 8, .inl kd)), (an 2, .inl (g 0, 8, .inl ka)), (an 3, .inl (g 0, 8, .inl ho)), (an 4, .inl (g 0, 8, .inl fa)), (an 5, .inl (g 0, 8, .inl si)), (an 6, .inl (g 0, 8, .inl kn)), (an 7, .inl (g 0, 8, .inl aw)), (an 8, .inl (g 0, 40, .inl ev)), (an 9, .inl (g 0, 40, .inl cr)), (an 10, .inl (g 0, 40, .inl tr)), (an 11, .inl (g 0, 4, .inl lw)), (an 12, .inr (0, [.int (q_5 0), .int (q_5 1), .int (q_5 2), .int (q_5 3), .int (q_5 4), .int (q_5 5), .int (q_5 6), .int (q_5 7), .int (q_5 8)]))]) rfl ?_
      refine s_iret B hQ hr dX8_draw_40 rfl ?_
      exact ⟨(if 0 < mPop (mThere kd ka fa si kn aw ev lw td n) then mZ z else z), q_5, (cg_draw_ok (G := (n, kd, ka, ho, fa, si, kn, aw, ev, cr, tr, lw, td, z)) hb_n h20 rfl), rfl⟩
    · refine s_bipush B dX8_draw_23 bp_m4 ?_
      refine s_iret B hQ hr dX8_draw_25 rfl ?_
      exact ⟨z, q, (cg_draw_no (G := (n, kd, ka, ho, fa, si, kn, aw, ev, cr, tr, lw, td, z)) (Or.inr h20)), rfl⟩
  · replace h7 : n = 0 := (nI_eq (a := n) (b := 0) (by omega) (by omega)).mp h7
    refine s_bipush B dX8_draw_10 bp_m3 ?_
    refine s_iret B hQ hr dX8_draw_12 rfl ?_
    exact ⟨z, q, (cg_draw_no (G := (n, kd, ka, ho, fa, si, kn, aw, ev, cr, tr, lw, td, z)) (Or.inl h7)), rfl⟩
def rmX8_child : Room := { frames := 1, cells := 0, slots := 0, locals := 24 }
theorem hd_X8_child : yX8_child.cls = RX8 ∧ yX8_child.cls ≠ "java/lang/invoke/MethodHandle" ∧ yX8_child.cls ≠ "java/lang/invoke/VarHandle" ∧ (parseMethodDescriptor yX8_child.desc).map (fun d => d.parameters.length) = some 4 := by decide +kernel
set_option maxHeartbeats 4000000 in
set_option maxRecDepth 100000 in
theorem c_X8_child (l : Launch) (D : va_G) (g : Nat → ClassId) (bo : Nat) (an : Nat → Nat) (ak : Nat → Nat) (bT : Nat) (hT : Nat) (ar : Nat → Nat) (bS : Nat) (bV : Nat) (th : Nat → Nat) (ik : Int32) (n : Nat) (td : Nat) (z : Int32) (kd : Nat → Int32) (ka : Nat → Int32) (ho : Nat → Int32) (fa : Nat → Int32) (si : Nat → Int32) (kn : Nat → Int32) (aw : Nat → Int32) (ev : Nat → Int32) (cr : Nat → Int32) (tr : Nat → Int32) (lw : Nat → Int32) (q : Nat → Int32) (k0 : Int32) (a0 : Int32) (h0 : Int32) (f0 : Int32)  (hb_n : n ≤ 8) (hb_td : td ≤ 40) : Ci l yX8_child (WW yX8_child cX8_child 5 (some FieldType.int)) rmX8_child D vwCl (TY g) [.ref bo, .int k0, .int a0, .int h0, .int f0] [(bo, .inr (8, [.ref (an 0), .ref (ak 0), .int ik, .ref (bT), .ref (hT), .ref (ar 0), .ref (bS), .ref (bV), .ref (th 0)])), (an 0, .inr (2, [.ref (an 1), .ref (an 2), .ref (an 3), .ref (an 4), .ref (an 5), .ref (an 6), .ref (an 7), .int (nI n), .ref (an 8), .ref (an 9), .ref (an 10), .ref (an 11), .int (nI td), .int z, .ref (an 12)])), (an 1, .inl (g 0, 8, .inl kd)), (an 2, .inl (g 0, 8, .inl ka)), (an 3, .inl (g 0, 8, .inl ho)), (an 4, .inl (g 0, 8, .inl fa)), (an 5, .inl (g 0, 8, .inl si)), (an 6, .inl (g 0, 8, .inl kn)), (an 7, .inl (g 0, 8, .inl aw)), (an 8, .inl (g 0, 40, .inl ev)), (an 9, .inl (g 0, 40, .inl cr)), (an 10, .inl (g 0, 40, .inl tr)), (an 11, .inl (g 0, 4, .inl lw)), (an 12, .inr (0, [.int (q 0), .int (q 1), .int (q 2), .int (q 3), .int (q 4), .int (q 5), .int (q 6), .int (q 7), .int (q 8)]))] (fun r u => ∃ (n' : Nat) (kd' : Nat → Int32) (ka' : Nat → Int32) (ho' : Nat → Int32) (fa' : Nat → Int32) (si' : Nat → Int32) (kn' : Nat → Int32) (aw' : Nat → Int32), (n' ≤ 8) ∧ (((n', kd', ka', ho', fa', si', kn', aw', ev, cr, tr, lw, td, z) : MG) = gChild k0 a0 h0 f0 (n, kd, ka, ho, fa, si, kn, aw, ev, cr, tr, lw, td, z) ∧ r = mChA k0 a0 h0 f0 n) ∧ u = [(bo, .inr (8, [.ref (an 0), .ref (ak 0), .int ik, .ref (bT), .ref (hT), .ref (ar 0), .ref (bS), .ref (bV), .ref (th 0)])), (an 0, .inr (2, [.ref (an 1), .ref (an 2), .ref (an 3), .ref (an 4), .ref (an 5), .ref (an 6), .ref (an 7), .int (nI n'), .ref (an 8), .ref (an 9), .ref (an 10), .ref (an 11), .int (nI td), .int z, .ref (an 12)])), (an 1, .inl (g 0, 8, .inl kd')), (an 2, .inl (g 0, 8, .inl ka')), (an 3, .inl (g 0, 8, .inl ho')), (an 4, .inl (g 0, 8, .inl fa')), (an 5, .inl (g 0, 8, .inl si')), (an 6, .inl (g 0, 8, .inl kn')), (an 7, .inl (g 0, 8, .inl aw')), (an 8, .inl (g 0, 40, .inl ev)), (an 9, .inl (g 0, 40, .inl cr)), (an 10, .inl (g 0, 40, .inl tr)), (an 11, .inl (g 0, 4, .inl lw)), (an 12, .inr (0, [.int (q 0), .int (q 1), .int (q 2), .int (q 3), .int (q 4), .int (q 5), .int (q 6), .int (q 7), .int (q 8)]))]) := by
  refine ci_in (by decide) (Nat.le_of_ble_eq_true rfl) (a0 := [bo, an 0, an 1, an 2, an 3, an 4, an 5, an 6, an 7, an 8, an 9, an 10, an 11, an 12]) rfl (fun p e s m args below meth c A Q hQ B hr hsc => ?_)
  refine s_iload_n B dX8_child_0 rfl 1 rfl ?_
  refine s_callSi B hsc (c_X8_isKind l D g k0) (gw_S ml_X8_88 sm_yX8_isKind ini_RX8 co_yX8_isKind) hd_X8_isKind rfl rfl ⟨(Nat.le_of_ble_eq_true rfl), (Nat.le_of_ble_eq_true rfl)⟩ [] [0, 1, 2, 3, 4] rfl rfl rfl rfl rfl (Nat.le_of_ble_eq_true rfl) dX8_child_1 (fun r_1 u_2 hpo => ?_)
  obtain ⟨rfl, rfl⟩ := hpo
  refine s_st (st' := [.int (if ¬ k0 < 0 ∧ k0 < 6 then 1 else 0)]) rfl ?_
  refine s_ws (ws' := [(bo, .inr (8, [.ref (an 0), .ref (ak 0), .int ik, .ref (bT), .ref (hT), .ref (ar 0), .ref (bS), .ref (bV), .ref (th 0)])), (an 0, .inr (2, [.ref (an 1), .ref (an 2), .ref (an 3), .ref (an 4), .ref (an 5), .ref (an 6), .ref (an 7), .int (nI n), .ref (an 8), .ref (an 9), .ref (an 10), .ref (an 11), .int (nI td), .int z, .ref (an 12)])), (an 1, .inl (g 0, 8, .inl kd)), (an 2, .inl (g 0, 8, .inl ka)), (an 3, .inl (g 0, 8, .inl ho)), (an 4, .inl (g 0, 8, .inl fa)), (an 5, .inl (g 0, 8, .inl si)), (an 6, .inl (g 0, 8, .inl kn)), (an 7, .inl (g 0, 8, .inl aw)), (an 8, .inl (g 0, 40, .inl ev)), (an 9, .inl (g 0, 40, .inl cr)), (an 10, .inl (g 0, 40, .inl tr)), (an 11, .inl (g 0, 4, .inl lw)), (an 12, .inr (0, [.int (q 0), .int (q 1), .int (q 2), .int (q 3), .int (q 4), .int (q 5), .int (q 6), .int (q 7), .int (q 8)]))]) rfl ?_
  refine s_bif_eq (tgt := 33) B dX8_child_4 rfl (fun h4 => ?_) (fun h4 => ?_)
  · refine s_iconst B dX8_child_33 ic_m1 ?_
    refine s_iret B hQ hr dX8_child_34 rfl ?_
    exact ⟨n, kd, ka, ho, fa, si, kn, aw, by omega, (cg_child_no (G := (n, kd, ka, ho, fa, si, kn, aw, ev, cr, tr, lw, td, z)) (fun q => by first | exact absurd q.1 (by assumption) | exact absurd q.2.1 (by assumption) | exact absurd q.2.2.1 (by assumption) | exact absurd (by assumption) q.2.2.2.1 | exact absurd q.2.2.2.2 (by assumption))), rfl⟩
  · obtain ⟨k_3, hk_4, rfl⟩ := nat_lt2 (N := 6) h4.1 h4.2 (by omega)
    refine s_iload_n B dX8_child_7 rfl 2 rfl ?_
    refine s_callSi B hsc (c_X8_isA l D g a0) (gw_S ml_X8_92 sm_yX8_isA ini_RX8 co_yX8_isA) hd_X8_isA rfl rfl ⟨(Nat.le_of_ble_eq_true rfl), (Nat.le_of_ble_eq_true rfl)⟩ [] [0, 1, 2, 3, 4] rfl rfl rfl rfl rfl (Nat.le_of_ble_eq_true rfl) dX8_child_8 (fun r_5 u_6 hpo => ?_)
    obtain ⟨rfl, rfl⟩ := hpo
    refine s_st (st' := [.int (if ¬ a0 < 0 ∧ a0 ≤ 9 then 1 else 0)]) rfl ?_
    refine s_ws (ws' := [(bo, .inr (8, [.ref (an 0), .ref (ak 0), .int ik, .ref (bT), .ref (hT), .ref (ar 0), .ref (bS), .ref (bV), .ref (th 0)])), (an 0, .inr (2, [.ref (an 1), .ref (an 2), .ref (an 3), .ref (an 4), .ref (an 5), .ref (an 6), .ref (an 7), .int (nI n), .ref (an 8), .ref (an 9), .ref (an 10), .ref (an 11), .int (nI td), .int z, .ref (an 12)])), (an 1, .inl (g 0, 8, .inl kd)), (an 2, .inl (g 0, 8, .inl ka)), (an 3, .inl (g 0, 8, .inl ho)), (an 4, .inl (g 0, 8, .inl fa)), (an 5, .inl (g 0, 8, .inl si)), (an 6, .inl (g 0, 8, .inl kn)), (an 7, .inl (g 0, 8, .inl aw)), (an 8, .inl (g 0, 40, .inl ev)), (an 9, .inl (g 0, 40, .inl cr)), (an 10, .inl (g 0, 40, .inl tr)), (an 11, .inl (g 0, 4, .inl lw)), (an 12, .inr (0, [.int (q 0), .int (q 1), .int (q 2), .int (q 3), .int (q 4), .int (q 5), .int (q 6), .int (q 7), .int (q 8)]))]) rfl ?_
    refine s_bif_eq (tgt := 33) B dX8_child_11 rfl (fun h11 => ?_) (fun h11 => ?_)
    · refine s_iconst B dX8_child_33 ic_m1 ?_
      refine s_iret B hQ hr dX8_child_34 rfl ?_
      exact ⟨n, kd, ka, ho, fa, si, kn, aw, by omega, (cg_child_no (G := (n, kd, ka, ho, fa, si, kn, aw, ev, cr, tr, lw, td, z)) (fun q => by first | exact absurd q.1 (by assumption) | exact absurd q.2.1 (by assumption) | exact absurd q.2.2.1 (by assumption) | exact absurd (by assumption) q.2.2.2.1 | exact absurd q.2.2.2.2 (by assumption))), rfl⟩
    · obtain ⟨k_7, hk_8, rfl⟩ := nat_le2 (N := 9) h11.1 h11.2 (by omega)
      refine s_iload_n B dX8_child_14 rfl 3 rfl ?_
      refine s_callSi B hsc (c_X8_isHouse l D g h0) (gw_S ml_X8_95 sm_yX8_isHouse ini_RX8 co_yX8_isHouse) hd_X8_isHouse rfl rfl ⟨(Nat.le_of_ble_eq_true rfl), (Nat.le_of_ble_eq_true rfl)⟩ [] [0, 1, 2, 3, 4] rfl rfl rfl rfl rfl (Nat.le_of_ble_eq_true rfl) dX8_child_15 (fun r_9 u_10 hpo => ?_)
      obtain ⟨rfl, rfl⟩ := hpo
      refine s_st (st' := [.int (if ¬ h0 < 0 ∧ h0 < 6 then 1 else 0)]) rfl ?_
      refine s_ws (ws' := [(bo, .inr (8, [.ref (an 0), .ref (ak 0), .int ik, .ref (bT), .ref (hT), .ref (ar 0), .ref (bS), .ref (bV), .ref (th 0)])), (an 0, .inr (2, [.ref (an 1), .ref (an 2), .ref (an 3), .ref (an 4), .ref (an 5), .ref (an 6), .ref (an 7), .int (nI n), .ref (an 8), .ref (an 9), .ref (an 10), .ref (an 11), .int (nI td), .int z, .ref (an 12)])), (an 1, .inl (g 0, 8, .inl kd)), (an 2, .inl (g 0, 8, .inl ka)), (an 3, .inl (g 0, 8, .inl ho)), (an 4, .inl (g 0, 8, .inl fa)), (an 5, .inl (g 0, 8, .inl si)), (an 6, .inl (g 0, 8, .inl kn)), (an 7, .inl (g 0, 8, .inl aw)), (an 8, .inl (g 0, 40, .inl ev)), (an 9, .inl (g 0, 40, .inl cr)), (an 10, .inl (g 0, 40, .inl tr)), (an 11, .inl (g 0, 4, .inl lw)), (an 12, .inr (0, [.int (q 0), .int (q 1), .int (q 2), .int (q 3), .int (q 4), .int (q 5), .int (q 6), .int (q 7), .int (q 8)]))]) rfl ?_
      refine s_bif_eq (tgt := 33) B dX8_child_18 rfl (fun h18 => ?_) (fun h18 => ?_)
      · refine s_iconst B dX8_child_33 ic_m1 ?_
        refine s_iret B hQ hr dX8_child_34 rfl ?_
        exact ⟨n, kd, ka, ho, fa, si, kn, aw, by omega, (cg_child_no (G := (n, kd, ka, ho, fa, si, kn, aw, ev, cr, tr, lw, td, z)) (fun q => by first | exact absurd q.1 (by assumption) | exact absurd q.2.1 (by assumption) | exact absurd q.2.2.1 (by assumption) | exact absurd (by assumption) q.2.2.2.1 | exact absurd q.2.2.2.2 (by assumption))), rfl⟩
      · obtain ⟨k_11, hk_12, rfl⟩ := nat_lt2 (N := 6) h18.1 h18.2 (by omega)
        refine s_iload B dX8_child_21 4 rfl ?_
        refine s_if_lt (tgt := 33) B dX8_child_23 rfl (fun h23 => ?_) (fun h23 => ?_)
        · refine s_iconst B dX8_child_33 ic_m1 ?_
          refine s_iret B hQ hr dX8_child_34 rfl ?_
          exact ⟨n, kd, ka, ho, fa, si, kn, aw, by omega, (cg_child_no (G := (n, kd, ka, ho, fa, si, kn, aw, ev, cr, tr, lw, td, z)) (fun q => by first | exact absurd q.1 (by assumption) | exact absurd q.2.1 (by assumption) | exact absurd q.2.2.1 (by assumption) | exact absurd (by assumption) q.2.2.2.1 | exact absurd q.2.2.2.2 (by assumption))), rfl⟩
        · refine s_iload B dX8_child_26 4 rfl ?_
          refine s_bipush B dX8_child_28 bp_9 ?_
          refine s_icmp_le (tgt := 35) B dX8_child_30 rfl (fun h30 => ?_) (fun h30 => ?_)
          · refine s_aload_n B dX8_child_35 rfl 0 rfl ?_
            refine s_get (T := TX8) B inX8 0 rfl rfl 0 (Nat.le_of_ble_eq_true rfl) fl_X8_10 rfl rfl dX8_child_36 ?_
            refine s_iload_n B dX8_child_39 rfl 1 rfl ?_
            refine s_iload_n B dX8_child_40 rfl 2 rfl ?_
            refine s_iload_n B dX8_child_41 rfl 3 rfl ?_
            refine s_iload B dX8_child_42 4 rfl ?_
            rcases (show n = 8 ∨ n < 8 from by omega) with hn8 | hn8
            · refine s_callVi B hsc (c_X2_addChild_full l D g an kd ka ho fa si kn aw n ev cr tr lw td z q (nI k_3) (nI k_7) (nI k_11) f0 (by omega)) (gw_V ml_X8_98 im_yX2_addChild se_yX2_addChild ini_RX2 co_yX2_addChild) hd_X2_addChild rfl rfl ⟨(Nat.le_of_ble_eq_true rfl), (Nat.le_of_ble_eq_true rfl)⟩ [1, 2, 3, 4, 5, 6, 7, 8, 9, 10, 11, 12, 13] [0, 1, 2, 3, 4] rfl rfl rfl (ci := 2) (q0 := 0) rfl rfl rfl rfl rfl (Nat.le_of_ble_eq_true rfl) dX8_child_44 (fun r_13 u_14 hpo => ?_)
              obtain ⟨rfl, rfl⟩ := hpo
              refine s_st (st' := [.int 0]) rfl ?_
              refine s_ws (ws' := [(bo, .inr (8, [.ref (an 0), .ref (ak 0), .int ik, .ref (bT), .ref (hT), .ref (ar 0), .ref (bS), .ref (bV), .ref (th 0)])), (an 0, .inr (2, [.ref (an 1), .ref (an 2), .ref (an 3), .ref (an 4), .ref (an 5), .ref (an 6), .ref (an 7), .int (nI n), .ref (an 8), .ref (an 9), .ref (an 10), .ref (an 11), .int (nI td), .int z, .ref (an 12)])), (an 1, .inl (g 0, 8, .inl kd)), (an 2, .inl (g 0, 8, .inl ka)), (an 3, .inl (g 0, 8, .inl ho)), (an 4, .inl (g 0, 8, .inl fa)), (an 5, .inl (g 0, 8, .inl si)), (an 6, .inl (g 0, 8, .inl kn)), (an 7, .inl (g 0, 8, .inl aw)), (an 8, .inl (g 0, 40, .inl ev)), (an 9, .inl (g 0, 40, .inl cr)), (an 10, .inl (g 0, 40, .inl tr)), (an 11, .inl (g 0, 4, .inl lw)), (an 12, .inr (0, [.int (q 0), .int (q 1), .int (q 2), .int (q 3), .int (q 4), .int (q 5), .int (q 6), .int (q 7), .int (q 8)]))]) rfl ?_
              refine s_if_eq (tgt := 62) B dX8_child_47 rfl (fun h47 => ?_) (fun h0 => absurd h0 (by decide))
              refine s_bipush B dX8_child_62 bp_m2 ?_
              refine s_iret B hQ hr dX8_child_64 rfl ?_
              exact ⟨n, kd, ka, ho, fa, si, kn, aw, by omega, (cg_child_full (G := (n, kd, ka, ho, fa, si, kn, aw, ev, cr, tr, lw, td, z)) ⟨h4, h11, h18, h23, h30⟩ hn8), rfl⟩
            · refine s_callVi B hsc (c_X2_addChild l D g an kd ka ho fa si kn aw n ev cr tr lw td z q (nI k_3) (nI k_7) (nI k_11) f0 (by omega)) (gw_V ml_X8_98 im_yX2_addChild se_yX2_addChild ini_RX2 co_yX2_addChild) hd_X2_addChild rfl rfl ⟨(Nat.le_of_ble_eq_true rfl), (Nat.le_of_ble_eq_true rfl)⟩ [1, 2, 3, 4, 5, 6, 7, 8, 9, 10, 11, 12, 13] [0, 1, 2, 3, 4] rfl rfl rfl (ci := 2) (q0 := 0) rfl rfl rfl rfl rfl (Nat.le_of_ble_eq_true rfl) dX8_child_44 (fun r_15 u_16 hpo => ?_)
              obtain ⟨rfl, rfl⟩ := hpo
              refine s_st (st' := [.int 1]) rfl ?_
              refine s_ws (ws' := [(bo, .inr (8, [.ref (an 0), .ref (ak 0), .int ik, .ref (bT), .ref (hT), .ref (ar 0), .ref (bS), .ref (bV), .ref (th 0)])), (an 0, .inr (2, [.ref (an 1), .ref (an 2), .ref (an 3), .ref (an 4), .ref (an 5), .ref (an 6), .ref (an 7), .int (nI (n + 1)), .ref (an 8), .ref (an 9), .ref (an 10), .ref (an 11), .int (nI td), .int z, .ref (an 12)])), (an 1, .inl (g 0, 8, .inl (upd kd n (nI k_3)))), (an 2, .inl (g 0, 8, .inl (upd ka n (nI k_7)))), (an 3, .inl (g 0, 8, .inl (upd ho n (nI k_11)))), (an 4, .inl (g 0, 8, .inl (upd fa n f0))), (an 5, .inl (g 0, 8, .inl (upd si n 0))), (an 6, .inl (g 0, 8, .inl (upd kn n 0))), (an 7, .inl (g 0, 8, .inl (upd aw n 0))), (an 8, .inl (g 0, 40, .inl ev)), (an 9, .inl (g 0, 40, .inl cr)), (an 10, .inl (g 0, 40, .inl tr)), (an 11, .inl (g 0, 4, .inl lw)), (an 12, .inr (0, [.int (q 0), .int (q 1), .int (q 2), .int (q 3), .int (q 4), .int (q 5), .int (q 6), .int (q 7), .int (q 8)]))]) rfl ?_
              refine s_if_eq (tgt := 62) B dX8_child_47 rfl (fun h0 => absurd h0 (by decide)) (fun h47 => ?_)
              refine s_aload_n B dX8_child_50 rfl 0 rfl ?_
              refine s_get (T := TX8) B inX8 0 rfl rfl 0 (Nat.le_of_ble_eq_true rfl) fl_X8_10 rfl rfl dX8_child_51 ?_
              refine s_get (T := TX2) B inX2 1 rfl rfl 7 (Nat.le_of_ble_eq_true rfl) fl_X8_87 rfl rfl dX8_child_54 ?_
              refine s_iconst B dX8_child_57 ic_1 ?_
              refine s_isub B dX8_child_58 ?_
              refine s_goto (tgt := 64) B dX8_child_59 rfl ?_
              refine s_iret B hQ hr dX8_child_64 rfl ?_
              exact ⟨(n + 1), (upd kd n (nI k_3)), (upd ka n (nI k_7)), (upd ho n (nI k_11)), (upd fa n f0), (upd si n 0), (upd kn n 0), (upd aw n 0), by omega, (cg_child_ok (G := (n, kd, ka, ho, fa, si, kn, aw, ev, cr, tr, lw, td, z)) ⟨h4, h11, h18, h23, h30⟩ hn8), rfl⟩
          · refine s_iconst B dX8_child_33 ic_m1 ?_
            refine s_iret B hQ hr dX8_child_34 rfl ?_
            exact ⟨n, kd, ka, ho, fa, si, kn, aw, by omega, (cg_child_no (G := (n, kd, ka, ho, fa, si, kn, aw, ev, cr, tr, lw, td, z)) (fun q => by first | exact absurd q.1 (by assumption) | exact absurd q.2.1 (by assumption) | exact absurd q.2.2.1 (by assumption) | exact absurd (by assumption) q.2.2.2.1 | exact absurd q.2.2.2.2 (by assumption))), rfl⟩
