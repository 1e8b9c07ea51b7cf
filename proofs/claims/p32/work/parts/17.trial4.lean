set_option maxHeartbeats 4000000 in
set_option maxRecDepth 100000 in
theorem c_X2_goOneDay_over (l : Launch) (D : va_G) (g : Nat → ClassId) (h : Nat → Nat) (kd ka ho fa si kn aw : Nat → Int32) (n : Nat) (ev cr tr lw : Nat → Int32) (td : Nat) (z : Int32) (q : Nat → Int32) (htd : td = 40) : Ci l yX2_goOneDay (WW yX2_goOneDay cX2_goOneDay 4 (some FieldType.int)) rmX2_goOneDay D vwCl (TY g) [.ref (h 0)] (SchC g h kd ka ho fa si kn aw n ev cr tr lw td z q) (fun r u => r = 0 ∧ u = SchC g h kd ka ho fa si kn aw n ev cr tr lw td z q) := by
  refine ci_in (by decide) (Nat.le_of_ble_eq_true rfl) (a0 := [h 0, h 1, h 2, h 3, h 4, h 5, h 6, h 7, h 8, h 9, h 10, h 11, h 12]) rfl (fun p e s m args below meth c A Q hQ B hr hsc => ?_)
  refine s_aload_n B dX2_goOneDay_0 rfl 0 rfl ?_
  refine s_callVi B hsc (c_X2_isOver l D g h kd ka ho fa si kn aw n ev cr tr lw td z q (by omega)) (gw_V ml_X2_71 im_yX2_isOver se_yX2_isOver ini_RX2 co_yX2_isOver) hd_X2_isOver rfl rfl ⟨(Nat.le_of_ble_eq_true rfl), (Nat.le_of_ble_eq_true rfl)⟩ [0, 1, 2, 3, 4, 5, 6, 7, 8, 9, 10, 11, 12] [0, 1, 2, 3, 4] rfl rfl rfl (ci := 2) (q0 := 0) rfl rfl rfl rfl rfl (Nat.le_of_ble_eq_true rfl) dX2_goOneDay_1 (fun r u hpo => ?_)
  obtain ⟨rfl, rfl⟩ := hpo
  refine s_st (st' := [.int (if 40 ≤ td then 1 else 0)]) rfl ?_
  refine s_ws (ws' := [(h 0, .inr (2, [.ref (h 1), .ref (h 2), .ref (h 3), .ref (h 4), .ref (h 5), .ref (h 6), .ref (h 7), .int (nI n), .ref (h 8), .ref (h 9), .ref (h 10), .ref (h 11), .int (nI td), .int z, .ref (h 12)])), (h 1, .inl (g 0, 8, .inl kd)), (h 2, .inl (g 0, 8, .inl ka)), (h 3, .inl (g 0, 8, .inl ho)), (h 4, .inl (g 0, 8, .inl fa)), (h 5, .inl (g 0, 8, .inl si)), (h 6, .inl (g 0, 8, .inl kn)), (h 7, .inl (g 0, 8, .inl aw)), (h 8, .inl (g 0, 40, .inl ev)), (h 9, .inl (g 0, 40, .inl cr)), (h 10, .inl (g 0, 40, .inl tr)), (h 11, .inl (g 0, 4, .inl lw)), (h 12, .inr (0, [.int (q 0), .int (q 1), .int (q 2), .int (q 3), .int (q 4), .int (q 5), .int (q 6), .int (q 7), .int (q 8)]))]) rfl ?_
  refine s_bif_eq (tgt := 9) B dX2_goOneDay_4 rfl (fun h4 => ?_) (fun h4 => ?_)
  · exfalso; omega
  · refine s_iconst B dX2_goOneDay_7 ic_0 ?_
    refine s_iret B hQ hr dX2_goOneDay_8 rfl ?_
    exact ⟨rfl, rfl⟩
/-- ROUND: of the sets below j the best, and how many come; k0: how many houses at most -/
def mBest (f : Nat → Int32) (k0 : Int32) : Nat → Int32 × Int32
  | 0 => (0, f 0)
  | j + 1 => if j + 1 < 64 ∧ ¬ k0 < mPop (nI (j + 1)) ∧ ((mBest f k0 j).2 < f (j + 1) ∨ (f (j + 1) = (mBest f k0 j).2 ∧ mPop (nI (j + 1)) < mPop (mBest f k0 j).1)) then (nI (j + 1), f (j + 1)) else mBest f k0 j
