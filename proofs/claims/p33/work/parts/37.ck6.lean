def mRef (so a : Int32) : Int32 := if so = -1 then -11 else if so = a then 0 else -13
def rmX8_put : Room := { frames := 1, cells := 0, slots := 0, locals := 21 }
theorem hd_X8_put : yX8_put.cls = RX8 ∧ yX8_put.cls ≠ "java/lang/invoke/MethodHandle" ∧ yX8_put.cls ≠ "java/lang/invoke/VarHandle" ∧ (parseMethodDescriptor yX8_put.desc).map (fun d => d.parameters.length) = some 3 := by decide +kernel
set_option maxHeartbeats 4000000 in
set_option maxRecDepth 100000 in
theorem c_X8_put (l : Launch) (D : va_G) (g : Nat → ClassId) (bo : Nat) (an : Nat → Nat) (ak : Nat → Nat) (bT : Nat) (hT : Nat) (ar : Nat → Nat) (bS : Nat) (bV : Nat) (th : Nat → Nat) (as : Nat → Nat) (ik : Int32) (so0 : Int32) (ln0 : Nat) (it0 : Nat → Int64) (so1 : Int32) (ln1 : Nat) (it1 : Nat → Int64) (so2 : Int32) (ln2 : Nat) (it2 : Nat → Int64) (so3 : Int32) (ln3 : Nat) (it3 : Nat → Int64) (s0 : Int32) (i0 : Int32) (v0 : Int32)  (hb_ln0 : ln0 ≤ 40) (hb_ln1 : ln1 ≤ 40) (hb_ln2 : ln2 ≤ 40) (hb_ln3 : ln3 ≤ 40) : Ci l yX8_put (WW yX8_put cX8_put 5 (some FieldType.int)) rmX8_put D vwCl (TY g) [.ref bo, .int s0, .int i0, .int v0] [(bo, .inr (8, [.ref (an 0), .ref (ak 0), .int ik, .ref (bT), .ref (hT), .ref (ar 0), .ref bS, .ref (bV), .ref (th 0)])), (bS, .inl (g 3, 4, .inr (.inr (.inr (.inr (fun j => some (as (2 * j)))))))), (as 0, .inr (3, [.int so0, .int (nI ln0), .ref (as 1)])), (as 1, .inl (g 2, 40, .inr (.inl it0))), (as 2, .inr (3, [.int so1, .int (nI ln1), .ref (as 3)])), (as 3, .inl (g 2, 40, .inr (.inl it1))), (as 4, .inr (3, [.int so2, .int (nI ln2), .ref (as 5)])), (as 5, .inl (g 2, 40, .inr (.inl it2))), (as 6, .inr (3, [.int so3, .int (nI ln3), .ref (as 7)])), (as 7, .inl (g 2, 40, .inr (.inl it3)))] (fun r u => ∃ (it0' : Nat → Int64) (it1' : Nat → Int64) (it2' : Nat → Int64) (it3' : Nat → Int64), (r = mPutC s0 i0 (v4 so0 so1 so2 so3) (v4 (nI ln0) (nI ln1) (nI ln2) (nI ln3))) ∧ (it0' = mPj r s0 i0 v0 so0 0 it0) ∧ (it1' = mPj r s0 i0 v0 so1 1 it1) ∧ (it2' = mPj r s0 i0 v0 so2 2 it2) ∧ (it3' = mPj r s0 i0 v0 so3 3 it3) ∧ u = [(bo, .inr (8, [.ref (an 0), .ref (ak 0), .int ik, .ref (bT), .ref (hT), .ref (ar 0), .ref bS, .ref (bV), .ref (th 0)])), (bS, .inl (g 3, 4, .inr (.inr (.inr (.inr (fun j => some (as (2 * j)))))))), (as 0, .inr (3, [.int so0, .int (nI ln0), .ref (as 1)])), (as 1, .inl (g 2, 40, .inr (.inl it0'))), (as 2, .inr (3, [.int so1, .int (nI ln1), .ref (as 3)])), (as 3, .inl (g 2, 40, .inr (.inl it1'))), (as 4, .inr (3, [.int so2, .int (nI ln2), .ref (as 5)])), (as 5, .inl (g 2, 40, .inr (.inl it2'))), (as 6, .inr (3, [.int so3, .int (nI ln3), .ref (as 7)])), (as 7, .inl (g 2, 40, .inr (.inl it3')))]) := by
  refine ci_in (by decide) (Nat.le_of_ble_eq_true rfl) (a0 := [bo, bS, as 0, as 1, as 2, as 3, as 4, as 5, as 6, as 7]) rfl (fun p e s m args below meth c A Q hQ B hr hsc => ?_)
  refine s_iload_n B dX8_put_0 rfl 1 rfl ?_
  refine s_callSi B hsc (c_X8_isSheet l D g s0) (gw_S ml_X8_220 sm_yX8_isSheet ini_RX8 co_yX8_isSheet) hd_X8_isSheet rfl rfl ⟨(Nat.le_of_ble_eq_true rfl), (Nat.le_of_ble_eq_true rfl)⟩ [] [0, 1, 2, 3, 4] rfl rfl rfl rfl rfl (Nat.le_of_ble_eq_true rfl) dX8_put_1 (fun r_1 u_2 hpo => ?_)
  obtain ⟨rfl, rfl⟩ := hpo
  refine s_st (st' := [.int (if ¬ s0 < 0 ∧ s0 < 4 then 1 else 0)]) rfl ?_
  refine s_ws (ws' := [(bo, .inr (8, [.ref (an 0), .ref (ak 0), .int ik, .ref (bT), .ref (hT), .ref (ar 0), .ref bS, .ref (bV), .ref (th 0)])), (bS, .inl (g 3, 4, .inr (.inr (.inr (.inr (fun j => some (as (2 * j)))))))), (as 0, .inr (3, [.int so0, .int (nI ln0), .ref (as 1)])), (as 1, .inl (g 2, 40, .inr (.inl it0))), (as 2, .inr (3, [.int so1, .int (nI ln1), .ref (as 3)])), (as 3, .inl (g 2, 40, .inr (.inl it1))), (as 4, .inr (3, [.int so2, .int (nI ln2), .ref (as 5)])), (as 5, .inl (g 2, 40, .inr (.inl it2))), (as 6, .inr (3, [.int so3, .int (nI ln3), .ref (as 7)])), (as 7, .inl (g 2, 40, .inr (.inl it3)))]) rfl ?_
  refine s_bif_ne (tgt := 9) B dX8_put_4 rfl (fun h4 => ?_) (fun h4 => ?_)
  · obtain ⟨k_3, hk_4, rfl⟩ := nat_lt2 (N := 4) h4.1 h4.2 (by omega)
    refine s_aload_n B dX8_put_9 rfl 0 rfl ?_
    refine s_get (T := TX8) B inX8 0 rfl rfl 6 (Nat.le_of_ble_eq_true rfl) fl_X8_46 rfl rfl dX8_put_10 ?_
    refine s_iload_n B dX8_put_13 rfl 1 rfl ?_
    rcases (show k_3 = 0 ∨ k_3 = 1 ∨ k_3 = 2 ∨ k_3 = 3 from by omega) with rfl | rfl | rfl | rfl
    · refine s_aldqN B 1 3 rfl rfl dX8_put_14 (by omega) (by decide) rfl ?_
      refine s_astore (lv' := [(4, _), (0, _), (1, _), (2, _), (3, _)]) B dX8_put_15 (Nat.le_of_ble_eq_true rfl) rfl ?_
      refine s_aload B dX8_put_17 0 rfl ?_
      refine s_get (T := TX3) B inX3 2 rfl rfl 0 (Nat.le_of_ble_eq_true rfl) fl_X8_237 rfl rfl dX8_put_19 ?_
      refine s_iconst B dX8_put_22 ic_m1 ?_
      refine s_icmp_ne (tgt := 29) B dX8_put_23 rfl (fun h23 => ?_) (fun h23 => ?_)
      · refine s_aload B dX8_put_29 0 rfl ?_
        refine s_iload_n B dX8_put_31 rfl 3 rfl ?_
        refine s_callVi B hsc (c_X3_hasItem l D g (fun i => as (0 + i)) so0 (nI ln0) it0 i0) (gw_V ml_X8_240 im_yX3_hasItem se_yX3_hasItem ini_RX3 co_yX3_hasItem) hd_X3_hasItem rfl rfl ⟨(Nat.le_of_ble_eq_true rfl), (Nat.le_of_ble_eq_true rfl)⟩ [2, 3] [0, 1, 2, 3, 4] rfl rfl rfl (ci := 3) (q0 := 0) rfl rfl rfl rfl rfl (Nat.le_of_ble_eq_true rfl) dX8_put_32 (fun r_5 u_6 hpo => ?_)
        obtain ⟨rfl, rfl⟩ := hpo
        refine s_st (st' := [.int (if ¬ i0 < 0 ∧ i0 < nI ln0 then 1 else 0)]) rfl ?_
        refine s_ws (ws' := [(bo, .inr (8, [.ref (an 0), .ref (ak 0), .int ik, .ref (bT), .ref (hT), .ref (ar 0), .ref bS, .ref (bV), .ref (th 0)])), (bS, .inl (g 3, 4, .inr (.inr (.inr (.inr (fun j => some (as (2 * j)))))))), (as 0, .inr (3, [.int so0, .int (nI ln0), .ref (as 1)])), (as 1, .inl (g 2, 40, .inr (.inl it0))), (as 2, .inr (3, [.int so1, .int (nI ln1), .ref (as 3)])), (as 3, .inl (g 2, 40, .inr (.inl it1))), (as 4, .inr (3, [.int so2, .int (nI ln2), .ref (as 5)])), (as 5, .inl (g 2, 40, .inr (.inl it2))), (as 6, .inr (3, [.int so3, .int (nI ln3), .ref (as 7)])), (as 7, .inl (g 2, 40, .inr (.inl it3)))]) rfl ?_
        refine s_bif_ne (tgt := 41) B dX8_put_35 rfl (fun h35 => ?_) (fun h35 => ?_)
        · obtain ⟨k_7, hk_8, rfl⟩ := nat_lt2 (N := ln0) h35.1 h35.2 (by omega)
          refine s_aload B dX8_put_41 0 rfl ?_
          refine s_get (T := TX3) B inX3 2 rfl rfl 2 (Nat.le_of_ble_eq_true rfl) fl_X8_229 rfl rfl dX8_put_43 ?_
          refine s_iload_n B dX8_put_46 rfl 3 rfl ?_
          refine s_aload B dX8_put_47 0 rfl ?_
          refine s_iload_n B dX8_put_49 rfl 4 rfl ?_
          refine s_callVl B hsc (c_X3_narrowed l D g (fun i => as (0 + i)) so0 (nI ln0) it0 v0) (gw_V ml_X8_243 im_yX3_narrowed se_yX3_narrowed ini_RX3 co_yX3_narrowed) hd_X3_narrowed rfl rfl ⟨(Nat.le_of_ble_eq_true rfl), (Nat.le_of_ble_eq_true rfl)⟩ [2, 3] [0, 1, 2, 3, 4] rfl rfl rfl (ci := 3) (q0 := 0) rfl rfl rfl rfl rfl (Nat.le_of_ble_eq_true rfl) dX8_put_50 (fun r_21 u_22 hpo => ?_)
          obtain ⟨rfl, rfl⟩ := hpo
          refine s_st (st' := [.long (mNar so0 v0), .int (nI k_7), .ref (as 1)]) rfl ?_
          refine s_ws (ws' := [(bo, .inr (8, [.ref (an 0), .ref (ak 0), .int ik, .ref (bT), .ref (hT), .ref (ar 0), .ref bS, .ref (bV), .ref (th 0)])), (bS, .inl (g 3, 4, .inr (.inr (.inr (.inr (fun j => some (as (2 * j)))))))), (as 0, .inr (3, [.int so0, .int (nI ln0), .ref (as 1)])), (as 1, .inl (g 2, 40, .inr (.inl it0))), (as 2, .inr (3, [.int so1, .int (nI ln1), .ref (as 3)])), (as 3, .inl (g 2, 40, .inr (.inl it1))), (as 4, .inr (3, [.int so2, .int (nI ln2), .ref (as 5)])), (as 5, .inl (g 2, 40, .inr (.inl it2))), (as 6, .inr (3, [.int so3, .int (nI ln3), .ref (as 7)])), (as 7, .inl (g 2, 40, .inr (.inl it3)))]) rfl ?_
          refine s_lastN (ws' := [_, _, _, _, _, _, _, _, _, _]) B 3 2 rfl rfl rfl dX8_put_53 (by omega) (by decide) ?_
          refine s_iconst B dX8_put_54 ic_1 ?_
          refine s_iret B hQ hr dX8_put_55 rfl ?_
          exact ⟨(vp_updL it0 k_7 (mNar so0 v0)), it1, it2, it3, by clear hQ B hr hsc; have ec0 : (nI 0).toNatClampNeg = 0 := (by decide); have ec1 : (nI 1).toNatClampNeg = 1 := (by decide); have ec2 : (nI 2).toNatClampNeg = 2 := (by decide); have ec3 : (nI 3).toNatClampNeg = 3 := (by decide); grind [mPutC, v4], (by first | exact mPj_is (by omega) | exact mPj_ne (by decide) | exact mPj_no (by decide)), (by first | exact mPj_is (by omega) | exact mPj_ne (by decide) | exact mPj_no (by decide)), (by first | exact mPj_is (by omega) | exact mPj_ne (by decide) | exact mPj_no (by decide)), (by first | exact mPj_is (by omega) | exact mPj_ne (by decide) | exact mPj_no (by decide)), rfl⟩
        · refine s_bipush B dX8_put_38 bp_m12 ?_
          refine s_iret B hQ hr dX8_put_40 rfl ?_
          exact ⟨it0, it1, it2, it3, by clear hQ B hr hsc; have ec0 : (nI 0).toNatClampNeg = 0 := (by decide); have ec1 : (nI 1).toNatClampNeg = 1 := (by decide); have ec2 : (nI 2).toNatClampNeg = 2 := (by decide); have ec3 : (nI 3).toNatClampNeg = 3 := (by decide); grind [mPutC, v4], (by first | exact mPj_is (by omega) | exact mPj_ne (by decide) | exact mPj_no (by decide)), (by first | exact mPj_is (by omega) | exact mPj_ne (by decide) | exact mPj_no (by decide)), (by first | exact mPj_is (by omega) | exact mPj_ne (by decide) | exact mPj_no (by decide)), (by first | exact mPj_is (by omega) | exact mPj_ne (by decide) | exact mPj_no (by decide)), rfl⟩
      · refine s_bipush B dX8_put_26 bp_m11 ?_
        refine s_iret B hQ hr dX8_put_28 rfl ?_
        exact ⟨it0, it1, it2, it3, by clear hQ B hr hsc; have ec0 : (nI 0).toNatClampNeg = 0 := (by decide); have ec1 : (nI 1).toNatClampNeg = 1 := (by decide); have ec2 : (nI 2).toNatClampNeg = 2 := (by decide); have ec3 : (nI 3).toNatClampNeg = 3 := (by decide); grind [mPutC, v4], (by first | exact mPj_is (by omega) | exact mPj_ne (by decide) | exact mPj_no (by decide)), (by first | exact mPj_is (by omega) | exact mPj_ne (by decide) | exact mPj_no (by decide)), (by first | exact mPj_is (by omega) | exact mPj_ne (by decide) | exact mPj_no (by decide)), (by first | exact mPj_is (by omega) | exact mPj_ne (by decide) | exact mPj_no (by decide)), rfl⟩
    · refine s_aldqN B 1 3 rfl rfl dX8_put_14 (by omega) (by decide) rfl ?_
      refine s_astore (lv' := [(4, _), (0, _), (1, _), (2, _), (3, _)]) B dX8_put_15 (Nat.le_of_ble_eq_true rfl) rfl ?_
      refine s_aload B dX8_put_17 0 rfl ?_
      refine s_get (T := TX3) B inX3 4 rfl rfl 0 (Nat.le_of_ble_eq_true rfl) fl_X8_237 rfl rfl dX8_put_19 ?_
      refine s_iconst B dX8_put_22 ic_m1 ?_
      refine s_icmp_ne (tgt := 29) B dX8_put_23 rfl (fun h23 => ?_) (fun h23 => ?_)
      · refine s_aload B dX8_put_29 0 rfl ?_
        refine s_iload_n B dX8_put_31 rfl 3 rfl ?_
        refine s_callVi B hsc (c_X3_hasItem l D g (fun i => as (2 + i)) so1 (nI ln1) it1 i0) (gw_V ml_X8_240 im_yX3_hasItem se_yX3_hasItem ini_RX3 co_yX3_hasItem) hd_X3_hasItem rfl rfl ⟨(Nat.le_of_ble_eq_true rfl), (Nat.le_of_ble_eq_true rfl)⟩ [4, 5] [0, 1, 2, 3, 4] rfl rfl rfl (ci := 3) (q0 := 0) rfl rfl rfl rfl rfl (Nat.le_of_ble_eq_true rfl) dX8_put_32 (fun r_9 u_10 hpo => ?_)
        obtain ⟨rfl, rfl⟩ := hpo
        refine s_st (st' := [.int (if ¬ i0 < 0 ∧ i0 < nI ln1 then 1 else 0)]) rfl ?_
        refine s_ws (ws' := [(bo, .inr (8, [.ref (an 0), .ref (ak 0), .int ik, .ref (bT), .ref (hT), .ref (ar 0), .ref bS, .ref (bV), .ref (th 0)])), (bS, .inl (g 3, 4, .inr (.inr (.inr (.inr (fun j => some (as (2 * j)))))))), (as 0, .inr (3, [.int so0, .int (nI ln0), .ref (as 1)])), (as 1, .inl (g 2, 40, .inr (.inl it0))), (as 2, .inr (3, [.int so1, .int (nI ln1), .ref (as 3)])), (as 3, .inl (g 2, 40, .inr (.inl it1))), (as 4, .inr (3, [.int so2, .int (nI ln2), .ref (as 5)])), (as 5, .inl (g 2, 40, .inr (.inl it2))), (as 6, .inr (3, [.int so3, .int (nI ln3), .ref (as 7)])), (as 7, .inl (g 2, 40, .inr (.inl it3)))]) rfl ?_
        refine s_bif_ne (tgt := 41) B dX8_put_35 rfl (fun h35 => ?_) (fun h35 => ?_)
        · obtain ⟨k_11, hk_12, rfl⟩ := nat_lt2 (N := ln1) h35.1 h35.2 (by omega)
          refine s_aload B dX8_put_41 0 rfl ?_
          refine s_get (T := TX3) B inX3 4 rfl rfl 2 (Nat.le_of_ble_eq_true rfl) fl_X8_229 rfl rfl dX8_put_43 ?_
          refine s_iload_n B dX8_put_46 rfl 3 rfl ?_
          refine s_aload B dX8_put_47 0 rfl ?_
          refine s_iload_n B dX8_put_49 rfl 4 rfl ?_
          refine s_callVl B hsc (c_X3_narrowed l D g (fun i => as (2 + i)) so1 (nI ln1) it1 v0) (gw_V ml_X8_243 im_yX3_narrowed se_yX3_narrowed ini_RX3 co_yX3_narrowed) hd_X3_narrowed rfl rfl ⟨(Nat.le_of_ble_eq_true rfl), (Nat.le_of_ble_eq_true rfl)⟩ [4, 5] [0, 1, 2, 3, 4] rfl rfl rfl (ci := 3) (q0 := 0) rfl rfl rfl rfl rfl (Nat.le_of_ble_eq_true rfl) dX8_put_50 (fun r_23 u_24 hpo => ?_)
          obtain ⟨rfl, rfl⟩ := hpo
          refine s_st (st' := [.long (mNar so1 v0), .int (nI k_11), .ref (as 3)]) rfl ?_
          refine s_ws (ws' := [(bo, .inr (8, [.ref (an 0), .ref (ak 0), .int ik, .ref (bT), .ref (hT), .ref (ar 0), .ref bS, .ref (bV), .ref (th 0)])), (bS, .inl (g 3, 4, .inr (.inr (.inr (.inr (fun j => some (as (2 * j)))))))), (as 0, .inr (3, [.int so0, .int (nI ln0), .ref (as 1)])), (as 1, .inl (g 2, 40, .inr (.inl it0))), (as 2, .inr (3, [.int so1, .int (nI ln1), .ref (as 3)])), (as 3, .inl (g 2, 40, .inr (.inl it1))), (as 4, .inr (3, [.int so2, .int (nI ln2), .ref (as 5)])), (as 5, .inl (g 2, 40, .inr (.inl it2))), (as 6, .inr (3, [.int so3, .int (nI ln3), .ref (as 7)])), (as 7, .inl (g 2, 40, .inr (.inl it3)))]) rfl ?_
          refine s_lastN (ws' := [_, _, _, _, _, _, _, _, _, _]) B 5 2 rfl rfl rfl dX8_put_53 (by omega) (by decide) ?_
          refine s_iconst B dX8_put_54 ic_1 ?_
          refine s_iret B hQ hr dX8_put_55 rfl ?_
          exact ⟨it0, (vp_updL it1 k_11 (mNar so1 v0)), it2, it3, by clear hQ B hr hsc; have ec0 : (nI 0).toNatClampNeg = 0 := (by decide); have ec1 : (nI 1).toNatClampNeg = 1 := (by decide); have ec2 : (nI 2).toNatClampNeg = 2 := (by decide); have ec3 : (nI 3).toNatClampNeg = 3 := (by decide); grind [mPutC, v4], (by first | exact mPj_is (by omega) | exact mPj_ne (by decide) | exact mPj_no (by decide)), (by first | exact mPj_is (by omega) | exact mPj_ne (by decide) | exact mPj_no (by decide)), (by first | exact mPj_is (by omega) | exact mPj_ne (by decide) | exact mPj_no (by decide)), (by first | exact mPj_is (by omega) | exact mPj_ne (by decide) | exact mPj_no (by decide)), rfl⟩
        · refine s_bipush B dX8_put_38 bp_m12 ?_
          refine s_iret B hQ hr dX8_put_40 rfl ?_
          exact ⟨it0, it1, it2, it3, by clear hQ B hr hsc; have ec0 : (nI 0).toNatClampNeg = 0 := (by decide); have ec1 : (nI 1).toNatClampNeg = 1 := (by decide); have ec2 : (nI 2).toNatClampNeg = 2 := (by decide); have ec3 : (nI 3).toNatClampNeg = 3 := (by decide); grind [mPutC, v4], (by first | exact mPj_is (by omega) | exact mPj_ne (by decide) | exact mPj_no (by decide)), (by first | exact mPj_is (by omega) | exact mPj_ne (by decide) | exact mPj_no (by decide)), (by first | exact mPj_is (by omega) | exact mPj_ne (by decide) | exact mPj_no (by decide)), (by first | exact mPj_is (by omega) | exact mPj_ne (by decide) | exact mPj_no (by decide)), rfl⟩
      · refine s_bipush B dX8_put_26 bp_m11 ?_
        refine s_iret B hQ hr dX8_put_28 rfl ?_
        exact ⟨it0, it1, it2, it3, by clear hQ B hr hsc; have ec0 : (nI 0).toNatClampNeg = 0 := (by decide); have ec1 : (nI 1).toNatClampNeg = 1 := (by decide); have ec2 : (nI 2).toNatClampNeg = 2 := (by decide); have ec3 : (nI 3).toNatClampNeg = 3 := (by decide); grind [mPutC, v4], (by first | exact mPj_is (by omega) | exact mPj_ne (by decide) | exact mPj_no (by decide)), (by first | exact mPj_is (by omega) | exact mPj_ne (by decide) | exact mPj_no (by decide)), (by first | exact mPj_is (by omega) | exact mPj_ne (by decide) | exact mPj_no (by decide)), (by first | exact mPj_is (by omega) | exact mPj_ne (by decide) | exact mPj_no (by decide)), rfl⟩
    · refine s_aldqN B 1 3 rfl rfl dX8_put_14 (by omega) (by decide) rfl ?_
      refine s_astore (lv' := [(4, _), (0, _), (1, _), (2, _), (3, _)]) B dX8_put_15 (Nat.le_of_ble_eq_true rfl) rfl ?_
      refine s_aload B dX8_put_17 0 rfl ?_
      refine s_get (T := TX3) B inX3 6 rfl rfl 0 (Nat.le_of_ble_eq_true rfl) fl_X8_237 rfl rfl dX8_put_19 ?_
      refine s_iconst B dX8_put_22 ic_m1 ?_
      refine s_icmp_ne (tgt := 29) B dX8_put_23 rfl (fun h23 => ?_) (fun h23 => ?_)
      · refine s_aload B dX8_put_29 0 rfl ?_
        refine s_iload_n B dX8_put_31 rfl 3 rfl ?_
        refine s_callVi B hsc (c_X3_hasItem l D g (fun i => as (4 + i)) so2 (nI ln2) it2 i0) (gw_V ml_X8_240 im_yX3_hasItem se_yX3_hasItem ini_RX3 co_yX3_hasItem) hd_X3_hasItem rfl rfl ⟨(Nat.le_of_ble_eq_true rfl), (Nat.le_of_ble_eq_true rfl)⟩ [6, 7] [0, 1, 2, 3, 4] rfl rfl rfl (ci := 3) (q0 := 0) rfl rfl rfl rfl rfl (Nat.le_of_ble_eq_true rfl) dX8_put_32 (fun r_13 u_14 hpo => ?_)
        obtain ⟨rfl, rfl⟩ := hpo
        refine s_st (st' := [.int (if ¬ i0 < 0 ∧ i0 < nI ln2 then 1 else 0)]) rfl ?_
        refine s_ws (ws' := [(bo, .inr (8, [.ref (an 0), .ref (ak 0), .int ik, .ref (bT), .ref (hT), .ref (ar 0), .ref bS, .ref (bV), .ref (th 0)])), (bS, .inl (g 3, 4, .inr (.inr (.inr (.inr (fun j => some (as (2 * j)))))))), (as 0, .inr (3, [.int so0, .int (nI ln0), .ref (as 1)])), (as 1, .inl (g 2, 40, .inr (.inl it0))), (as 2, .inr (3, [.int so1, .int (nI ln1), .ref (as 3)])), (as 3, .inl (g 2, 40, .inr (.inl it1))), (as 4, .inr (3, [.int so2, .int (nI ln2), .ref (as 5)])), (as 5, .inl (g 2, 40, .inr (.inl it2))), (as 6, .inr (3, [.int so3, .int (nI ln3), .ref (as 7)])), (as 7, .inl (g 2, 40, .inr (.inl it3)))]) rfl ?_
        refine s_bif_ne (tgt := 41) B dX8_put_35 rfl (fun h35 => ?_) (fun h35 => ?_)
        · obtain ⟨k_15, hk_16, rfl⟩ := nat_lt2 (N := ln2) h35.1 h35.2 (by omega)
          refine s_aload B dX8_put_41 0 rfl ?_
          refine s_get (T := TX3) B inX3 6 rfl rfl 2 (Nat.le_of_ble_eq_true rfl) fl_X8_229 rfl rfl dX8_put_43 ?_
          refine s_iload_n B dX8_put_46 rfl 3 rfl ?_
          refine s_aload B dX8_put_47 0 rfl ?_
          refine s_iload_n B dX8_put_49 rfl 4 rfl ?_
          refine s_callVl B hsc (c_X3_narrowed l D g (fun i => as (4 + i)) so2 (nI ln2) it2 v0) (gw_V ml_X8_243 im_yX3_narrowed se_yX3_narrowed ini_RX3 co_yX3_narrowed) hd_X3_narrowed rfl rfl ⟨(Nat.le_of_ble_eq_true rfl), (Nat.le_of_ble_eq_true rfl)⟩ [6, 7] [0, 1, 2, 3, 4] rfl rfl rfl (ci := 3) (q0 := 0) rfl rfl rfl rfl rfl (Nat.le_of_ble_eq_true rfl) dX8_put_50 (fun r_25 u_26 hpo => ?_)
          obtain ⟨rfl, rfl⟩ := hpo
          refine s_st (st' := [.long (mNar so2 v0), .int (nI k_15), .ref (as 5)]) rfl ?_
          refine s_ws (ws' := [(bo, .inr (8, [.ref (an 0), .ref (ak 0), .int ik, .ref (bT), .ref (hT), .ref (ar 0), .ref bS, .ref (bV), .ref (th 0)])), (bS, .inl (g 3, 4, .inr (.inr (.inr (.inr (fun j => some (as (2 * j)))))))), (as 0, .inr (3, [.int so0, .int (nI ln0), .ref (as 1)])), (as 1, .inl (g 2, 40, .inr (.inl it0))), (as 2, .inr (3, [.int so1, .int (nI ln1), .ref (as 3)])), (as 3, .inl (g 2, 40, .inr (.inl it1))), (as 4, .inr (3, [.int so2, .int (nI ln2), .ref (as 5)])), (as 5, .inl (g 2, 40, .inr (.inl it2))), (as 6, .inr (3, [.int so3, .int (nI ln3), .ref (as 7)])), (as 7, .inl (g 2, 40, .inr (.inl it3)))]) rfl ?_
          refine s_lastN (ws' := [_, _, _, _, _, _, _, _, _, _]) B 7 2 rfl rfl rfl dX8_put_53 (by omega) (by decide) ?_
          refine s_iconst B dX8_put_54 ic_1 ?_
          refine s_iret B hQ hr dX8_put_55 rfl ?_
          exact ⟨it0, it1, (vp_updL it2 k_15 (mNar so2 v0)), it3, by clear hQ B hr hsc; have ec0 : (nI 0).toNatClampNeg = 0 := (by decide); have ec1 : (nI 1).toNatClampNeg = 1 := (by decide); have ec2 : (nI 2).toNatClampNeg = 2 := (by decide); have ec3 : (nI 3).toNatClampNeg = 3 := (by decide); grind [mPutC, v4], (by first | exact mPj_is (by omega) | exact mPj_ne (by decide) | exact mPj_no (by decide)), (by first | exact mPj_is (by omega) | exact mPj_ne (by decide) | exact mPj_no (by decide)), (by first | exact mPj_is (by omega) | exact mPj_ne (by decide) | exact mPj_no (by decide)), (by first | exact mPj_is (by omega) | exact mPj_ne (by decide) | exact mPj_no (by decide)), rfl⟩
        · refine s_bipush B dX8_put_38 bp_m12 ?_
          refine s_iret B hQ hr dX8_put_40 rfl ?_
          exact ⟨it0, it1, it2, it3, by clear hQ B hr hsc; have ec0 : (nI 0).toNatClampNeg = 0 := (by decide); have ec1 : (nI 1).toNatClampNeg = 1 := (by decide); have ec2 : (nI 2).toNatClampNeg = 2 := (by decide); have ec3 : (nI 3).toNatClampNeg = 3 := (by decide); grind [mPutC, v4], (by first | exact mPj_is (by omega) | exact mPj_ne (by decide) | exact mPj_no (by decide)), (by first | exact mPj_is (by omega) | exact mPj_ne (by decide) | exact mPj_no (by decide)), (by first | exact mPj_is (by omega) | exact mPj_ne (by decide) | exact mPj_no (by decide)), (by first | exact mPj_is (by omega) | exact mPj_ne (by decide) | exact mPj_no (by decide)), rfl⟩
      · refine s_bipush B dX8_put_26 bp_m11 ?_
        refine s_iret B hQ hr dX8_put_28 rfl ?_
        exact ⟨it0, it1, it2, it3, by clear hQ B hr hsc; have ec0 : (nI 0).toNatClampNeg = 0 := (by decide); have ec1 : (nI 1).toNatClampNeg = 1 := (by decide); have ec2 : (nI 2).toNatClampNeg = 2 := (by decide); have ec3 : (nI 3).toNatClampNeg = 3 := (by decide); grind [mPutC, v4], (by first | exact mPj_is (by omega) | exact mPj_ne (by decide) | exact mPj_no (by decide)), (by first | exact mPj_is (by omega) | exact mPj_ne (by decide) | exact mPj_no (by decide)), (by first | exact mPj_is (by omega) | exact mPj_ne (by decide) | exact mPj_no (by decide)), (by first | exact mPj_is (by omega) | exact mPj_ne (by decide) | exact mPj_no (by decide)), rfl⟩
    · refine s_aldqN B 1 3 rfl rfl dX8_put_14 (by omega) (by decide) rfl ?_
      refine s_astore (lv' := [(4, _), (0, _), (1, _), (2, _), (3, _)]) B dX8_put_15 (Nat.le_of_ble_eq_true rfl) rfl ?_
      refine s_aload B dX8_put_17 0 rfl ?_
      refine s_get (T := TX3) B inX3 8 rfl rfl 0 (Nat.le_of_ble_eq_true rfl) fl_X8_237 rfl rfl dX8_put_19 ?_
      refine s_iconst B dX8_put_22 ic_m1 ?_
      refine s_icmp_ne (tgt := 29) B dX8_put_23 rfl (fun h23 => ?_) (fun h23 => ?_)
      · refine s_aload B dX8_put_29 0 rfl ?_
        refine s_iload_n B dX8_put_31 rfl 3 rfl ?_
        refine s_callVi B hsc (c_X3_hasItem l D g (fun i => as (6 + i)) so3 (nI ln3) it3 i0) (gw_V ml_X8_240 im_yX3_hasItem se_yX3_hasItem ini_RX3 co_yX3_hasItem) hd_X3_hasItem rfl rfl ⟨(Nat.le_of_ble_eq_true rfl), (Nat.le_of_ble_eq_true rfl)⟩ [8, 9] [0, 1, 2, 3, 4] rfl rfl rfl (ci := 3) (q0 := 0) rfl rfl rfl rfl rfl (Nat.le_of_ble_eq_true rfl) dX8_put_32 (fun r_17 u_18 hpo => ?_)
        obtain ⟨rfl, rfl⟩ := hpo
        refine s_st (st' := [.int (if ¬ i0 < 0 ∧ i0 < nI ln3 then 1 else 0)]) rfl ?_
        refine s_ws (ws' := [(bo, .inr (8, [.ref (an 0), .ref (ak 0), .int ik, .ref (bT), .ref (hT), .ref (ar 0), .ref bS, .ref (bV), .ref (th 0)])), (bS, .inl (g 3, 4, .inr (.inr (.inr (.inr (fun j => some (as (2 * j)))))))), (as 0, .inr (3, [.int so0, .int (nI ln0), .ref (as 1)])), (as 1, .inl (g 2, 40, .inr (.inl it0))), (as 2, .inr (3, [.int so1, .int (nI ln1), .ref (as 3)])), (as 3, .inl (g 2, 40, .inr (.inl it1))), (as 4, .inr (3, [.int so2, .int (nI ln2), .ref (as 5)])), (as 5, .inl (g 2, 40, .inr (.inl it2))), (as 6, .inr (3, [.int so3, .int (nI ln3), .ref (as 7)])), (as 7, .inl (g 2, 40, .inr (.inl it3)))]) rfl ?_
        refine s_bif_ne (tgt := 41) B dX8_put_35 rfl (fun h35 => ?_) (fun h35 => ?_)
        · obtain ⟨k_19, hk_20, rfl⟩ := nat_lt2 (N := ln3) h35.1 h35.2 (by omega)
          refine s_aload B dX8_put_41 0 rfl ?_
          refine s_get (T := TX3) B inX3 8 rfl rfl 2 (Nat.le_of_ble_eq_true rfl) fl_X8_229 rfl rfl dX8_put_43 ?_
          refine s_iload_n B dX8_put_46 rfl 3 rfl ?_
          refine s_aload B dX8_put_47 0 rfl ?_
          refine s_iload_n B dX8_put_49 rfl 4 rfl ?_
          refine s_callVl B hsc (c_X3_narrowed l D g (fun i => as (6 + i)) so3 (nI ln3) it3 v0) (gw_V ml_X8_243 im_yX3_narrowed se_yX3_narrowed ini_RX3 co_yX3_narrowed) hd_X3_narrowed rfl rfl ⟨(Nat.le_of_ble_eq_true rfl), (Nat.le_of_ble_eq_true rfl)⟩ [8, 9] [0, 1, 2, 3, 4] rfl rfl rfl (ci := 3) (q0 := 0) rfl rfl rfl rfl rfl (Nat.le_of_ble_eq_true rfl) dX8_put_50 (fun r_27 u_28 hpo => ?_)
          obtain ⟨rfl, rfl⟩ := hpo
          refine s_st (st' := [.long (mNar so3 v0), .int (nI k_19), .ref (as 7)]) rfl ?_
          refine s_ws (ws' := [(bo, .inr (8, [.ref (an 0), .ref (ak 0), .int ik, .ref (bT), .ref (hT), .ref (ar 0), .ref bS, .ref (bV), .ref (th 0)])), (bS, .inl (g 3, 4, .inr (.inr (.inr (.inr (fun j => some (as (2 * j)))))))), (as 0, .inr (3, [.int so0, .int (nI ln0), .ref (as 1)])), (as 1, .inl (g 2, 40, .inr (.inl it0))), (as 2, .inr (3, [.int so1, .int (nI ln1), .ref (as 3)])), (as 3, .inl (g 2, 40, .inr (.inl it1))), (as 4, .inr (3, [.int so2, .int (nI ln2), .ref (as 5)])), (as 5, .inl (g 2, 40, .inr (.inl it2))), (as 6, .inr (3, [.int so3, .int (nI ln3), .ref (as 7)])), (as 7, .inl (g 2, 40, .inr (.inl it3)))]) rfl ?_
          refine s_lastN (ws' := [_, _, _, _, _, _, _, _, _, _]) B 9 2 rfl rfl rfl dX8_put_53 (by omega) (by decide) ?_
          refine s_iconst B dX8_put_54 ic_1 ?_
          refine s_iret B hQ hr dX8_put_55 rfl ?_
          exact ⟨it0, it1, it2, (vp_updL it3 k_19 (mNar so3 v0)), by clear hQ B hr hsc; have ec0 : (nI 0).toNatClampNeg = 0 := (by decide); have ec1 : (nI 1).toNatClampNeg = 1 := (by decide); have ec2 : (nI 2).toNatClampNeg = 2 := (by decide); have ec3 : (nI 3).toNatClampNeg = 3 := (by decide); grind [mPutC, v4], (by first | exact mPj_is (by omega) | exact mPj_ne (by decide) | exact mPj_no (by decide)), (by first | exact mPj_is (by omega) | exact mPj_ne (by decide) | exact mPj_no (by decide)), (by first | exact mPj_is (by omega) | exact mPj_ne (by decide) | exact mPj_no (by decide)), (by first | exact mPj_is (by omega) | exact mPj_ne (by decide) | exact mPj_no (by decide)), rfl⟩
        · refine s_bipush B dX8_put_38 bp_m12 ?_
          refine s_iret B hQ hr dX8_put_40 rfl ?_
          exact ⟨it0, it1, it2, it3, by clear hQ B hr hsc; have ec0 : (nI 0).toNatClampNeg = 0 := (by decide); have ec1 : (nI 1).toNatClampNeg = 1 := (by decide); have ec2 : (nI 2).toNatClampNeg = 2 := (by decide); have ec3 : (nI 3).toNatClampNeg = 3 := (by decide); grind [mPutC, v4], (by first | exact mPj_is (by omega) | exact mPj_ne (by decide) | exact mPj_no (by decide)), (by first | exact mPj_is (by omega) | exact mPj_ne (by decide) | exact mPj_no (by decide)), (by first | exact mPj_is (by omega) | exact mPj_ne (by decide) | exact mPj_no (by decide)), (by first | exact mPj_is (by omega) | exact mPj_ne (by decide) | exact mPj_no (by decide)), rfl⟩
      · refine s_bipush B dX8_put_26 bp_m11 ?_
        refine s_iret B hQ hr dX8_put_28 rfl ?_
        exact ⟨it0, it1, it2, it3, by clear hQ B hr hsc; have ec0 : (nI 0).toNatClampNeg = 0 := (by decide); have ec1 : (nI 1).toNatClampNeg = 1 := (by decide); have ec2 : (nI 2).toNatClampNeg = 2 := (by decide); have ec3 : (nI 3).toNatClampNeg = 3 := (by decide); grind [mPutC, v4], (by first | exact mPj_is (by omega) | exact mPj_ne (by decide) | exact mPj_no (by decide)), (by first | exact mPj_is (by omega) | exact mPj_ne (by decide) | exact mPj_no (by decide)), (by first | exact mPj_is (by omega) | exact mPj_ne (by decide) | exact mPj_no (by decide)), (by first | exact mPj_is (by omega) | exact mPj_ne (by decide) | exact mPj_no (by decide)), rfl⟩
  · refine s_iconst B dX8_put_7 ic_m1 ?_
    refine s_iret B hQ hr dX8_put_8 rfl ?_
    exact ⟨it0, it1, it2, it3, by clear hQ B hr hsc; have ec0 : (nI 0).toNatClampNeg = 0 := (by decide); have ec1 : (nI 1).toNatClampNeg = 1 := (by decide); have ec2 : (nI 2).toNatClampNeg = 2 := (by decide); have ec3 : (nI 3).toNatClampNeg = 3 := (by decide); grind [mPutC, v4], (by first | exact mPj_is (by omega) | exact mPj_ne (by decide) | exact mPj_no (by decide)), (by first | exact mPj_is (by omega) | exact mPj_ne (by decide) | exact mPj_no (by decide)), (by first | exact mPj_is (by omega) | exact mPj_ne (by decide) | exact mPj_no (by decide)), (by first | exact mPj_is (by omega) | exact mPj_ne (by decide) | exact mPj_no (by decide)), rfl⟩
theorem it_ok {so ln : Nat → Int32} {it : Nat → Nat → Int64} {j k i n : Nat} {w : Int32} {x : Int64} (hj : j < 4) (hk : k < 4) (hi : i < n) (hn : n ≤ 40) (hln : ln j = nI n) (hso : so j = w) (hx : it j i = x) (h : ¬ mRef w (nI k) < 0) : x.toInt32 = mItC (nI j) (nI k) (nI i) so ln it := by
  subst hso; subst hx
  unfold mRef at h
  by_cases e : so j = -1
  · rw [if_pos e] at h; exact absurd (by decide) h
  · rw [if_neg e] at h
    by_cases e2 : so j = nI k
    · unfold mItC
      have r : ∀ m : Nat, m < 4 → ¬ (nI m < 0 ∨ ¬ nI m < 4) := fun m hm q => q.elim (nI_pos (by omega)) (fun w => w (nI_lt (b := 4) hm (by decide)))
      rw [if_neg (fun q => q.elim (r j hj) (r k hk)), nI_clamp (by omega), if_neg e, if_neg (fun w => w e2), hln, if_neg (fun q => q.elim (nI_pos (by omega)) (fun w => w (nI_lt hi (by omega)))), nI_clamp (by omega)]
    · rw [if_neg e2] at h; exact absurd (by decide) h
def rmX8_item : Room := { frames := 1, cells := 0, slots := 0, locals := 21 }
theorem hd_X8_item : yX8_item.cls = RX8 ∧ yX8_item.cls ≠ "java/lang/invoke/MethodHandle" ∧ yX8_item.cls ≠ "java/lang/invoke/VarHandle" ∧ (parseMethodDescriptor yX8_item.desc).map (fun d => d.parameters.length) = some 3 := by decide +kernel
set_option maxHeartbeats 4000000 in
set_option maxRecDepth 100000 in
theorem c_X8_item (l : Launch) (D : va_G) (g : Nat → ClassId) (bo : Nat) (an : Nat → Nat) (ak : Nat → Nat) (bT : Nat) (hT : Nat) (ar : Nat → Nat) (bS : Nat) (bV : Nat) (th : Nat → Nat) (as : Nat → Nat) (ik : Int32) (so0 : Int32) (ln0 : Nat) (it0 : Nat → Int64) (so1 : Int32) (ln1 : Nat) (it1 : Nat → Int64) (so2 : Int32) (ln2 : Nat) (it2 : Nat → Int64) (so3 : Int32) (ln3 : Nat) (it3 : Nat → Int64) (s0 : Int32) (t0 : Int32) (i0 : Int32)  (hb_ln0 : ln0 ≤ 40) (hb_ln1 : ln1 ≤ 40) (hb_ln2 : ln2 ≤ 40) (hb_ln3 : ln3 ≤ 40) : Ci l yX8_item (WW yX8_item cX8_item 6 (some FieldType.int)) rmX8_item D vwCl (TY g) [.ref bo, .int s0, .int t0, .int i0] [(bo, .inr (8, [.ref (an 0), .ref (ak 0), .int ik, .ref (bT), .ref (hT), .ref (ar 0), .ref bS, .ref (bV), .ref (th 0)])), (bS, .inl (g 3, 4, .inr (.inr (.inr (.inr (fun j => some (as (2 * j)))))))), (as 0, .inr (3, [.int so0, .int (nI ln0), .ref (as 1)])), (as 1, .inl (g 2, 40, .inr (.inl it0))), (as 2, .inr (3, [.int so1, .int (nI ln1), .ref (as 3)])), (as 3, .inl (g 2, 40, .inr (.inl it1))), (as 4, .inr (3, [.int so2, .int (nI ln2), .ref (as 5)])), (as 5, .inl (g 2, 40, .inr (.inl it2))), (as 6, .inr (3, [.int so3, .int (nI ln3), .ref (as 7)])), (as 7, .inl (g 2, 40, .inr (.inl it3)))] (fun r u => (r = mItC s0 t0 i0 (v4 so0 so1 so2 so3) (v4 (nI ln0) (nI ln1) (nI ln2) (nI ln3)) (v4L it0 it1 it2 it3)) ∧ u = [(bo, .inr (8, [.ref (an 0), .ref (ak 0), .int ik, .ref (bT), .ref (hT), .ref (ar 0), .ref bS, .ref (bV), .ref (th 0)])), (bS, .inl (g 3, 4, .inr (.inr (.inr (.inr (fun j => some (as (2 * j)))))))), (as 0, .inr (3, [.int so0, .int (nI ln0), .ref (as 1)])), (as 1, .inl (g 2, 40, .inr (.inl it0))), (as 2, .inr (3, [.int so1, .int (nI ln1), .ref (as 3)])), (as 3, .inl (g 2, 40, .inr (.inl it1))), (as 4, .inr (3, [.int so2, .int (nI ln2), .ref (as 5)])), (as 5, .inl (g 2, 40, .inr (.inl it2))), (as 6, .inr (3, [.int so3, .int (nI ln3), .ref (as 7)])), (as 7, .inl (g 2, 40, .inr (.inl it3)))]) := by
  refine ci_in (by decide) (Nat.le_of_ble_eq_true rfl) (a0 := [bo, bS, as 0, as 1, as 2, as 3, as 4, as 5, as 6, as 7]) rfl (fun p e s m args below meth c A Q hQ B hr hsc => ?_)
  refine s_iload_n B dX8_item_0 rfl 1 rfl ?_
  refine s_callSi B hsc (c_X8_isSheet l D g s0) (gw_S ml_X8_220 sm_yX8_isSheet ini_RX8 co_yX8_isSheet) hd_X8_isSheet rfl rfl ⟨(Nat.le_of_ble_eq_true rfl), (Nat.le_of_ble_eq_true rfl)⟩ [] [0, 1, 2, 3, 4] rfl rfl rfl rfl rfl (Nat.le_of_ble_eq_true rfl) dX8_item_1 (fun r_1 u_2 hpo => ?_)
  obtain ⟨rfl, rfl⟩ := hpo
  refine s_st (st' := [.int (if ¬ s0 < 0 ∧ s0 < 4 then 1 else 0)]) rfl ?_
  refine s_ws (ws' := [(bo, .inr (8, [.ref (an 0), .ref (ak 0), .int ik, .ref (bT), .ref (hT), .ref (ar 0), .ref bS, .ref (bV), .ref (th 0)])), (bS, .inl (g 3, 4, .inr (.inr (.inr (.inr (fun j => some (as (2 * j)))))))), (as 0, .inr (3, [.int so0, .int (nI ln0), .ref (as 1)])), (as 1, .inl (g 2, 40, .inr (.inl it0))), (as 2, .inr (3, [.int so1, .int (nI ln1), .ref (as 3)])), (as 3, .inl (g 2, 40, .inr (.inl it1))), (as 4, .inr (3, [.int so2, .int (nI ln2), .ref (as 5)])), (as 5, .inl (g 2, 40, .inr (.inl it2))), (as 6, .inr (3, [.int so3, .int (nI ln3), .ref (as 7)])), (as 7, .inl (g 2, 40, .inr (.inl it3)))]) rfl ?_
  refine s_bif_eq (tgt := 14) B dX8_item_4 rfl (fun h4 => ?_) (fun h4 => ?_)
  · refine s_iconst B dX8_item_14 ic_m1 ?_
    refine s_iret B hQ hr dX8_item_15 rfl ?_
    exact ⟨(by clear hQ B hr hsc; have ec0 : (nI 0).toNatClampNeg = 0 := (by decide); have ec1 : (nI 1).toNatClampNeg = 1 := (by decide); have ec2 : (nI 2).toNatClampNeg = 2 := (by decide); have ec3 : (nI 3).toNatClampNeg = 3 := (by decide); grind [mItC, mRef, v4, v4L]), rfl⟩
  · obtain ⟨k_3, hk_4, rfl⟩ := nat_lt2 (N := 4) h4.1 h4.2 (by omega)
    refine s_iload_n B dX8_item_7 rfl 2 rfl ?_
    refine s_callSi B hsc (c_X8_isSort l D g t0) (gw_S ml_X8_247 sm_yX8_isSort ini_RX8 co_yX8_isSort) hd_X8_isSort rfl rfl ⟨(Nat.le_of_ble_eq_true rfl), (Nat.le_of_ble_eq_true rfl)⟩ [] [0, 1, 2, 3, 4] rfl rfl rfl rfl rfl (Nat.le_of_ble_eq_true rfl) dX8_item_8 (fun r_5 u_6 hpo => ?_)
    obtain ⟨rfl, rfl⟩ := hpo
    refine s_st (st' := [.int (if ¬ t0 < 0 ∧ t0 < 4 then 1 else 0)]) rfl ?_
    refine s_ws (ws' := [(bo, .inr (8, [.ref (an 0), .ref (ak 0), .int ik, .ref (bT), .ref (hT), .ref (ar 0), .ref bS, .ref (bV), .ref (th 0)])), (bS, .inl (g 3, 4, .inr (.inr (.inr (.inr (fun j => some (as (2 * j)))))))), (as 0, .inr (3, [.int so0, .int (nI ln0), .ref (as 1)])), (as 1, .inl (g 2, 40, .inr (.inl it0))), (as 2, .inr (3, [.int so1, .int (nI ln1), .ref (as 3)])), (as 3, .inl (g 2, 40, .inr (.inl it1))), (as 4, .inr (3, [.int so2, .int (nI ln2), .ref (as 5)])), (as 5, .inl (g 2, 40, .inr (.inl it2))), (as 6, .inr (3, [.int so3, .int (nI ln3), .ref (as 7)])), (as 7, .inl (g 2, 40, .inr (.inl it3)))]) rfl ?_
    refine s_bif_ne (tgt := 16) B dX8_item_11 rfl (fun h11 => ?_) (fun h11 => ?_)
    · obtain ⟨k_7, hk_8, rfl⟩ := nat_lt2 (N := 4) h11.1 h11.2 (by omega)
      refine s_aload_n B dX8_item_16 rfl 0 rfl ?_
      refine s_get (T := TX8) B inX8 0 rfl rfl 6 (Nat.le_of_ble_eq_true rfl) fl_X8_46 rfl rfl dX8_item_17 ?_
      refine s_iload_n B dX8_item_20 rfl 1 rfl ?_
      rcases (show k_3 = 0 ∨ k_3 = 1 ∨ k_3 = 2 ∨ k_3 = 3 from by omega) with rfl | rfl | rfl | rfl
      · refine s_aldqN B 1 3 rfl rfl dX8_item_21 (by omega) (by decide) rfl ?_
        refine s_astore (lv' := [(4, _), (0, _), (1, _), (2, _), (3, _)]) B dX8_item_22 (Nat.le_of_ble_eq_true rfl) rfl ?_
        refine s_aload B dX8_item_24 0 rfl ?_
        refine s_iload_n B dX8_item_26 rfl 3 rfl ?_
        refine s_callVi B hsc (c_X3_refusalAs l D g (fun i => as (0 + i)) so0 (nI ln0) it0 (nI k_7)) (gw_V ml_X8_223 im_yX3_refusalAs se_yX3_refusalAs ini_RX3 co_yX3_refusalAs) hd_X3_refusalAs rfl rfl ⟨(Nat.le_of_ble_eq_true rfl), (Nat.le_of_ble_eq_true rfl)⟩ [2, 3] [0, 1, 2, 3, 4] rfl rfl rfl (ci := 3) (q0 := 0) rfl rfl rfl rfl rfl (Nat.le_of_ble_eq_true rfl) dX8_item_27 (fun r_9 u_10 hpo => ?_)
        obtain ⟨rfl, rfl⟩ := hpo
        refine s_st (st' := [.int (mRef so0 (nI k_7))]) rfl ?_
        refine s_ws (ws' := [(bo, .inr (8, [.ref (an 0), .ref (ak 0), .int ik, .ref (bT), .ref (hT), .ref (ar 0), .ref bS, .ref (bV), .ref (th 0)])), (bS, .inl (g 3, 4, .inr (.inr (.inr (.inr (fun j => some (as (2 * j)))))))), (as 0, .inr (3, [.int so0, .int (nI ln0), .ref (as 1)])), (as 1, .inl (g 2, 40, .inr (.inl it0))), (as 2, .inr (3, [.int so1, .int (nI ln1), .ref (as 3)])), (as 3, .inl (g 2, 40, .inr (.inl it1))), (as 4, .inr (3, [.int so2, .int (nI ln2), .ref (as 5)])), (as 5, .inl (g 2, 40, .inr (.inl it2))), (as 6, .inr (3, [.int so3, .int (nI ln3), .ref (as 7)])), (as 7, .inl (g 2, 40, .inr (.inl it3)))]) rfl ?_
        refine s_istore (lv' := [(5, _), (4, _), (0, _), (1, _), (2, _), (3, _)]) B dX8_item_30 (Nat.le_of_ble_eq_true rfl) rfl ?_
        refine s_iload B dX8_item_32 0 rfl ?_
        refine s_if_ge (tgt := 40) B dX8_item_34 rfl (fun h34 => ?_) (fun h34 => ?_)
        · refine s_aload B dX8_item_40 1 rfl ?_
          refine s_iload_n B dX8_item_42 rfl 5 rfl ?_
          refine s_callVi B hsc (c_X3_hasItem l D g (fun i => as (0 + i)) so0 (nI ln0) it0 i0) (gw_V ml_X8_240 im_yX3_hasItem se_yX3_hasItem ini_RX3 co_yX3_hasItem) hd_X3_hasItem rfl rfl ⟨(Nat.le_of_ble_eq_true rfl), (Nat.le_of_ble_eq_true rfl)⟩ [2, 3] [0, 1, 2, 3, 4] rfl rfl rfl (ci := 3) (q0 := 0) rfl rfl rfl rfl rfl (Nat.le_of_ble_eq_true rfl) dX8_item_43 (fun r_11 u_12 hpo => ?_)
          obtain ⟨rfl, rfl⟩ := hpo
          refine s_st (st' := [.int (if ¬ i0 < 0 ∧ i0 < nI ln0 then 1 else 0)]) rfl ?_
          refine s_ws (ws' := [(bo, .inr (8, [.ref (an 0), .ref (ak 0), .int ik, .ref (bT), .ref (hT), .ref (ar 0), .ref bS, .ref (bV), .ref (th 0)])), (bS, .inl (g 3, 4, .inr (.inr (.inr (.inr (fun j => some (as (2 * j)))))))), (as 0, .inr (3, [.int so0, .int (nI ln0), .ref (as 1)])), (as 1, .inl (g 2, 40, .inr (.inl it0))), (as 2, .inr (3, [.int so1, .int (nI ln1), .ref (as 3)])), (as 3, .inl (g 2, 40, .inr (.inl it1))), (as 4, .inr (3, [.int so2, .int (nI ln2), .ref (as 5)])), (as 5, .inl (g 2, 40, .inr (.inl it2))), (as 6, .inr (3, [.int so3, .int (nI ln3), .ref (as 7)])), (as 7, .inl (g 2, 40, .inr (.inl it3)))]) rfl ?_
          refine s_bif_eq (tgt := 60) B dX8_item_46 rfl (fun h46 => ?_) (fun h46 => ?_)
          · refine s_bipush B dX8_item_60 bp_m12 ?_
            refine s_iret B hQ hr dX8_item_62 rfl ?_
            exact ⟨(by clear hQ B hr hsc; have ec0 : (nI 0).toNatClampNeg = 0 := (by decide); have ec1 : (nI 1).toNatClampNeg = 1 := (by decide); have ec2 : (nI 2).toNatClampNeg = 2 := (by decide); have ec3 : (nI 3).toNatClampNeg = 3 := (by decide); have ek0 : (nI k_7).toNatClampNeg = k_7 := nI_clamp (by omega); grind [mItC, mRef, v4, v4L]), rfl⟩
          · obtain ⟨k_13, hk_14, rfl⟩ := nat_lt2 (N := ln0) h46.1 h46.2 (by omega)
            refine s_aload B dX8_item_49 1 rfl ?_
            refine s_get (T := TX3) B inX3 2 rfl rfl 2 (Nat.le_of_ble_eq_true rfl) fl_X8_229 rfl rfl dX8_item_51 ?_
            refine s_iload_n B dX8_item_54 rfl 5 rfl ?_
            refine s_laldN B 3 2 rfl rfl dX8_item_55 (by omega) (by decide) ?_
            refine s_l2i B dX8_item_56 rfl ?_
            refine s_goto (tgt := 62) B dX8_item_57 rfl ?_
            refine s_iret B hQ hr dX8_item_62 rfl ?_
            exact ⟨(it_ok (so := v4 so0 so1 so2 so3) (ln := v4 (nI ln0) (nI ln1) (nI ln2) (nI ln3)) (it := v4L it0 it1 it2 it3) (j := 0) (k := k_7) (i := k_13) (n := ln0) (w := so0) (x := it0 k_13) (by decide) (by omega) (by omega) (by omega) rfl rfl rfl (Int32.not_lt.mpr h34)), rfl⟩
        · refine s_iload B dX8_item_37 0 rfl ?_
          refine s_iret B hQ hr dX8_item_39 rfl ?_
          exact ⟨(by clear hQ B hr hsc; have ec0 : (nI 0).toNatClampNeg = 0 := (by decide); have ec1 : (nI 1).toNatClampNeg = 1 := (by decide); have ec2 : (nI 2).toNatClampNeg = 2 := (by decide); have ec3 : (nI 3).toNatClampNeg = 3 := (by decide); have ek0 : (nI k_7).toNatClampNeg = k_7 := nI_clamp (by omega); grind [mItC, mRef, v4, v4L]), rfl⟩
      · refine s_aldqN B 1 3 rfl rfl dX8_item_21 (by omega) (by decide) rfl ?_
        refine s_astore (lv' := [(4, _), (0, _), (1, _), (2, _), (3, _)]) B dX8_item_22 (Nat.le_of_ble_eq_true rfl) rfl ?_
        refine s_aload B dX8_item_24 0 rfl ?_
        refine s_iload_n B dX8_item_26 rfl 3 rfl ?_
        refine s_callVi B hsc (c_X3_refusalAs l D g (fun i => as (2 + i)) so1 (nI ln1) it1 (nI k_7)) (gw_V ml_X8_223 im_yX3_refusalAs se_yX3_refusalAs ini_RX3 co_yX3_refusalAs) hd_X3_refusalAs rfl rfl ⟨(Nat.le_of_ble_eq_true rfl), (Nat.le_of_ble_eq_true rfl)⟩ [4, 5] [0, 1, 2, 3, 4] rfl rfl rfl (ci := 3) (q0 := 0) rfl rfl rfl rfl rfl (Nat.le_of_ble_eq_true rfl) dX8_item_27 (fun r_15 u_16 hpo => ?_)
        obtain ⟨rfl, rfl⟩ := hpo
        refine s_st (st' := [.int (mRef so1 (nI k_7))]) rfl ?_
        refine s_ws (ws' := [(bo, .inr (8, [.ref (an 0), .ref (ak 0), .int ik, .ref (bT), .ref (hT), .ref (ar 0), .ref bS, .ref (bV), .ref (th 0)])), (bS, .inl (g 3, 4, .inr (.inr (.inr (.inr (fun j => some (as (2 * j)))))))), (as 0, .inr (3, [.int so0, .int (nI ln0), .ref (as 1)])), (as 1, .inl (g 2, 40, .inr (.inl it0))), (as 2, .inr (3, [.int so1, .int (nI ln1), .ref (as 3)])), (as 3, .inl (g 2, 40, .inr (.inl it1))), (as 4, .inr (3, [.int so2, .int (nI ln2), .ref (as 5)])), (as 5, .inl (g 2, 40, .inr (.inl it2))), (as 6, .inr (3, [.int so3, .int (nI ln3), .ref (as 7)])), (as 7, .inl (g 2, 40, .inr (.inl it3)))]) rfl ?_
        refine s_istore (lv' := [(5, _), (4, _), (0, _), (1, _), (2, _), (3, _)]) B dX8_item_30 (Nat.le_of_ble_eq_true rfl) rfl ?_
        refine s_iload B dX8_item_32 0 rfl ?_
        refine s_if_ge (tgt := 40) B dX8_item_34 rfl (fun h34 => ?_) (fun h34 => ?_)
        · refine s_aload B dX8_item_40 1 rfl ?_
          refine s_iload_n B dX8_item_42 rfl 5 rfl ?_
          refine s_callVi B hsc (c_X3_hasItem l D g (fun i => as (2 + i)) so1 (nI ln1) it1 i0) (gw_V ml_X8_240 im_yX3_hasItem se_yX3_hasItem ini_RX3 co_yX3_hasItem) hd_X3_hasItem rfl rfl ⟨(Nat.le_of_ble_eq_true rfl), (Nat.le_of_ble_eq_true rfl)⟩ [4, 5] [0, 1, 2, 3, 4] rfl rfl rfl (ci := 3) (q0 := 0) rfl rfl rfl rfl rfl (Nat.le_of_ble_eq_true rfl) dX8_item_43 (fun r_17 u_18 hpo => ?_)
          obtain ⟨rfl, rfl⟩ := hpo
          refine s_st (st' := [.int (if ¬ i0 < 0 ∧ i0 < nI ln1 then 1 else 0)]) rfl ?_
          refine s_ws (ws' := [(bo, .inr (8, [.ref (an 0), .ref (ak 0), .int ik, .ref (bT), .ref (hT), .ref (ar 0), .ref bS, .ref (bV), .ref (th 0)])), (bS, .inl (g 3, 4, .inr (.inr (.inr (.inr (fun j => some (as (2 * j)))))))), (as 0, .inr (3, [.int so0, .int (nI ln0), .ref (as 1)])), (as 1, .inl (g 2, 40, .inr (.inl it0))), (as 2, .inr (3, [.int so1, .int (nI ln1), .ref (as 3)])), (as 3, .inl (g 2, 40, .inr (.inl it1))), (as 4, .inr (3, [.int so2, .int (nI ln2), .ref (as 5)])), (as 5, .inl (g 2, 40, .inr (.inl it2))), (as 6, .inr (3, [.int so3, .int (nI ln3), .ref (as 7)])), (as 7, .inl (g 2, 40, .inr (.inl it3)))]) rfl ?_
          refine s_bif_eq (tgt := 60) B dX8_item_46 rfl (fun h46 => ?_) (fun h46 => ?_)
          · refine s_bipush B dX8_item_60 bp_m12 ?_
            refine s_iret B hQ hr dX8_item_62 rfl ?_
            exact ⟨(by clear hQ B hr hsc; have ec0 : (nI 0).toNatClampNeg = 0 := (by decide); have ec1 : (nI 1).toNatClampNeg = 1 := (by decide); have ec2 : (nI 2).toNatClampNeg = 2 := (by decide); have ec3 : (nI 3).toNatClampNeg = 3 := (by decide); have ek0 : (nI k_7).toNatClampNeg = k_7 := nI_clamp (by omega); grind [mItC, mRef, v4, v4L]), rfl⟩
          · obtain ⟨k_19, hk_20, rfl⟩ := nat_lt2 (N := ln1) h46.1 h46.2 (by omega)
            refine s_aload B dX8_item_49 1 rfl ?_
            refine s_get (T := TX3) B inX3 4 rfl rfl 2 (Nat.le_of_ble_eq_true rfl) fl_X8_229 rfl rfl dX8_item_51 ?_
            refine s_iload_n B dX8_item_54 rfl 5 rfl ?_
            refine s_laldN B 5 2 rfl rfl dX8_item_55 (by omega) (by decide) ?_
            refine s_l2i B dX8_item_56 rfl ?_
            refine s_goto (tgt := 62) B dX8_item_57 rfl ?_
            refine s_iret B hQ hr dX8_item_62 rfl ?_
            exact ⟨(it_ok (so := v4 so0 so1 so2 so3) (ln := v4 (nI ln0) (nI ln1) (nI ln2) (nI ln3)) (it := v4L it0 it1 it2 it3) (j := 1) (k := k_7) (i := k_19) (n := ln1) (w := so1) (x := it1 k_19) (by decide) (by omega) (by omega) (by omega) rfl rfl rfl (Int32.not_lt.mpr h34)), rfl⟩
        · refine s_iload B dX8_item_37 0 rfl ?_
          refine s_iret B hQ hr dX8_item_39 rfl ?_
          exact ⟨(by clear hQ B hr hsc; have ec0 : (nI 0).toNatClampNeg = 0 := (by decide); have ec1 : (nI 1).toNatClampNeg = 1 := (by decide); have ec2 : (nI 2).toNatClampNeg = 2 := (by decide); have ec3 : (nI 3).toNatClampNeg = 3 := (by decide); have ek0 : (nI k_7).toNatClampNeg = k_7 := nI_clamp (by omega); grind [mItC, mRef, v4, v4L]), rfl⟩
      · refine s_aldqN B 1 3 rfl rfl dX8_item_21 (by omega) (by decide) rfl ?_
        refine s_astore (lv' := [(4, _), (0, _), (1, _), (2, _), (3, _)]) B dX8_item_22 (Nat.le_of_ble_eq_true rfl) rfl ?_
        refine s_aload B dX8_item_24 0 rfl ?_
        refine s_iload_n B dX8_item_26 rfl 3 rfl ?_
        refine s_callVi B hsc (c_X3_refusalAs l D g (fun i => as (4 + i)) so2 (nI ln2) it2 (nI k_7)) (gw_V ml_X8_223 im_yX3_refusalAs se_yX3_refusalAs ini_RX3 co_yX3_refusalAs) hd_X3_refusalAs rfl rfl ⟨(Nat.le_of_ble_eq_true rfl), (Nat.le_of_ble_eq_true rfl)⟩ [6, 7] [0, 1, 2, 3, 4] rfl rfl rfl (ci := 3) (q0 := 0) rfl rfl rfl rfl rfl (Nat.le_of_ble_eq_true rfl) dX8_item_27 (fun r_21 u_22 hpo => ?_)
        obtain ⟨rfl, rfl⟩ := hpo
        refine s_st (st' := [.int (mRef so2 (nI k_7))]) rfl ?_
        refine s_ws (ws' := [(bo, .inr (8, [.ref (an 0), .ref (ak 0), .int ik, .ref (bT), .ref (hT), .ref (ar 0), .ref bS, .ref (bV), .ref (th 0)])), (bS, .inl (g 3, 4, .inr (.inr (.inr (.inr (fun j => some (as (2 * j)))))))), (as 0, .inr (3, [.int so0, .int (nI ln0), .ref (as 1)])), (as 1, .inl (g 2, 40, .inr (.inl it0))), (as 2, .inr (3, [.int so1, .int (nI ln1), .ref (as 3)])), (as 3, .inl (g 2, 40, .inr (.inl it1))), (as 4, .inr (3, [.int so2, .int (nI ln2), .ref (as 5)])), (as 5, .inl (g 2, 40, .inr (.inl it2))), (as 6, .inr (3, [.int so3, .int (nI ln3), .ref (as 7)])), (as 7, .inl (g 2, 40, .inr (.inl it3)))]) rfl ?_
        refine s_istore (lv' := [(5, _), (4, _), (0, _), (1, _), (2, _), (3, _)]) B dX8_item_30 (Nat.le_of_ble_eq_true rfl) rfl ?_
        refine s_iload B dX8_item_32 0 rfl ?_
        refine s_if_ge (tgt := 40) B dX8_item_34 rfl (fun h34 => ?_) (fun h34 => ?_)
        · refine s_aload B dX8_item_40 1 rfl ?_
          refine s_iload_n B dX8_item_42 rfl 5 rfl ?_
          refine s_callVi B hsc (c_X3_hasItem l D g (fun i => as (4 + i)) so2 (nI ln2) it2 i0) (gw_V ml_X8_240 im_yX3_hasItem se_yX3_hasItem ini_RX3 co_yX3_hasItem) hd_X3_hasItem rfl rfl ⟨(Nat.le_of_ble_eq_true rfl), (Nat.le_of_ble_eq_true rfl)⟩ [6, 7] [0, 1, 2, 3, 4] rfl rfl rfl (ci := 3) (q0 := 0) rfl rfl rfl rfl rfl (Nat.le_of_ble_eq_true rfl) dX8_item_43 (fun r_23 u_24 hpo => ?_)
          obtain ⟨rfl, rfl⟩ := hpo
          refine s_st (st' := [.int (if ¬ i0 < 0 ∧ i0 < nI ln2 then 1 else 0)]) rfl ?_
          refine s_ws (ws' := [(bo, .inr (8, [.ref (an 0), .ref (ak 0), .int ik, .ref (bT), .ref (hT), .ref (ar 0), .ref bS, .ref (bV), .ref (th 0)])), (bS, .inl (g 3, 4, .inr (.inr (.inr (.inr (fun j => some (as (2 * j)))))))), (as 0, .inr (3, [.int so0, .int (nI ln0), .ref (as 1)])), (as 1, .inl (g 2, 40, .inr (.inl it0))), (as 2, .inr (3, [.int so1, .int (nI ln1), .ref (as 3)])), (as 3, .inl (g 2, 40, .inr (.inl it1))), (as 4, .inr (3, [.int so2, .int (nI ln2), .ref (as 5)])), (as 5, .inl (g 2, 40, .inr (.inl it2))), (as 6, .inr (3, [.int so3, .int (nI ln3), .ref (as 7)])), (as 7, .inl (g 2, 40, .inr (.inl it3)))]) rfl ?_
          refine s_bif_eq (tgt := 60) B dX8_item_46 rfl (fun h46 => ?_) (fun h46 => ?_)
          · refine s_bipush B dX8_item_60 bp_m12 ?_
            refine s_iret B hQ hr dX8_item_62 rfl ?_
            exact ⟨(by clear hQ B hr hsc; have ec0 : (nI 0).toNatClampNeg = 0 := (by decide); have ec1 : (nI 1).toNatClampNeg = 1 := (by decide); have ec2 : (nI 2).toNatClampNeg = 2 := (by decide); have ec3 : (nI 3).toNatClampNeg = 3 := (by decide); have ek0 : (nI k_7).toNatClampNeg = k_7 := nI_clamp (by omega); grind [mItC, mRef, v4, v4L]), rfl⟩
          · obtain ⟨k_25, hk_26, rfl⟩ := nat_lt2 (N := ln2) h46.1 h46.2 (by omega)
            refine s_aload B dX8_item_49 1 rfl ?_
            refine s_get (T := TX3) B inX3 6 rfl rfl 2 (Nat.le_of_ble_eq_true rfl) fl_X8_229 rfl rfl dX8_item_51 ?_
            refine s_iload_n B dX8_item_54 rfl 5 rfl ?_
            refine s_laldN B 7 2 rfl rfl dX8_item_55 (by omega) (by decide) ?_
            refine s_l2i B dX8_item_56 rfl ?_
            refine s_goto (tgt := 62) B dX8_item_57 rfl ?_
            refine s_iret B hQ hr dX8_item_62 rfl ?_
            exact ⟨(it_ok (so := v4 so0 so1 so2 so3) (ln := v4 (nI ln0) (nI ln1) (nI ln2) (nI ln3)) (it := v4L it0 it1 it2 it3) (j := 2) (k := k_7) (i := k_25) (n := ln2) (w := so2) (x := it2 k_25) (by decide) (by omega) (by omega) (by omega) rfl rfl rfl (Int32.not_lt.mpr h34)), rfl⟩
        · refine s_iload B dX8_item_37 0 rfl ?_
          refine s_iret B hQ hr dX8_item_39 rfl ?_
          exact ⟨(by clear hQ B hr hsc; have ec0 : (nI 0).toNatClampNeg = 0 := (by decide); have ec1 : (nI 1).toNatClampNeg = 1 := (by decide); have ec2 : (nI 2).toNatClampNeg = 2 := (by decide); have ec3 : (nI 3).toNatClampNeg = 3 := (by decide); have ek0 : (nI k_7).toNatClampNeg = k_7 := nI_clamp (by omega); grind [mItC, mRef, v4, v4L]), rfl⟩
      · refine s_aldqN B 1 3 rfl rfl dX8_item_21 (by omega) (by decide) rfl ?_
        refine s_astore (lv' := [(4, _), (0, _), (1, _), (2, _), (3, _)]) B dX8_item_22 (Nat.le_of_ble_eq_true rfl) rfl ?_
        refine s_aload B dX8_item_24 0 rfl ?_
        refine s_iload_n B dX8_item_26 rfl 3 rfl ?_
        refine s_callVi B hsc (c_X3_refusalAs l D g (fun i => as (6 + i)) so3 (nI ln3) it3 (nI k_7)) (gw_V ml_X8_223 im_yX3_refusalAs se_yX3_refusalAs ini_RX3 co_yX3_refusalAs) hd_X3_refusalAs rfl rfl ⟨(Nat.le_of_ble_eq_true rfl), (Nat.le_of_ble_eq_true rfl)⟩ [8, 9] [0, 1, 2, 3, 4] rfl rfl rfl (ci := 3) (q0 := 0) rfl rfl rfl rfl rfl (Nat.le_of_ble_eq_true rfl) dX8_item_27 (fun r_27 u_28 hpo => ?_)
        obtain ⟨rfl, rfl⟩ := hpo
        refine s_st (st' := [.int (mRef so3 (nI k_7))]) rfl ?_
        refine s_ws (ws' := [(bo, .inr (8, [.ref (an 0), .ref (ak 0), .int ik, .ref (bT), .ref (hT), .ref (ar 0), .ref bS, .ref (bV), .ref (th 0)])), (bS, .inl (g 3, 4, .inr (.inr (.inr (.inr (fun j => some (as (2 * j)))))))), (as 0, .inr (3, [.int so0, .int (nI ln0), .ref (as 1)])), (as 1, .inl (g 2, 40, .inr (.inl it0))), (as 2, .inr (3, [.int so1, .int (nI ln1), .ref (as 3)])), (as 3, .inl (g 2, 40, .inr (.inl it1))), (as 4, .inr (3, [.int so2, .int (nI ln2), .ref (as 5)])), (as 5, .inl (g 2, 40, .inr (.inl it2))), (as 6, .inr (3, [.int so3, .int (nI ln3), .ref (as 7)])), (as 7, .inl (g 2, 40, .inr (.inl it3)))]) rfl ?_
        refine s_istore (lv' := [(5, _), (4, _), (0, _), (1, _), (2, _), (3, _)]) B dX8_item_30 (Nat.le_of_ble_eq_true rfl) rfl ?_
        refine s_iload B dX8_item_32 0 rfl ?_
        refine s_if_ge (tgt := 40) B dX8_item_34 rfl (fun h34 => ?_) (fun h34 => ?_)
        · refine s_aload B dX8_item_40 1 rfl ?_
          refine s_iload_n B dX8_item_42 rfl 5 rfl ?_
          refine s_callVi B hsc (c_X3_hasItem l D g (fun i => as (6 + i)) so3 (nI ln3) it3 i0) (gw_V ml_X8_240 im_yX3_hasItem se_yX3_hasItem ini_RX3 co_yX3_hasItem) hd_X3_hasItem rfl rfl ⟨(Nat.le_of_ble_eq_true rfl), (Nat.le_of_ble_eq_true rfl)⟩ [8, 9] [0, 1, 2, 3, 4] rfl rfl rfl (ci := 3) (q0 := 0) rfl rfl rfl rfl rfl (Nat.le_of_ble_eq_true rfl) dX8_item_43 (fun r_29 u_30 hpo => ?_)
          obtain ⟨rfl, rfl⟩ := hpo
          refine s_st (st' := [.int (if ¬ i0 < 0 ∧ i0 < nI ln3 then 1 else 0)]) rfl ?_
          refine s_ws (ws' := [(bo, .inr (8, [.ref (an 0), .ref (ak 0), .int ik, .ref (bT), .ref (hT), .ref (ar 0), .ref bS, .ref (bV), .ref (th 0)])), (bS, .inl (g 3, 4, .inr (.inr (.inr (.inr (fun j => some (as (2 * j)))))))), (as 0, .inr (3, [.int so0, .int (nI ln0), .ref (as 1)])), (as 1, .inl (g 2, 40, .inr (.inl it0))), (as 2, .inr (3, [.int so1, .int (nI ln1), .ref (as 3)])), (as 3, .inl (g 2, 40, .inr (.inl it1))), (as 4, .inr (3, [.int so2, .int (nI ln2), .ref (as 5)])), (as 5, .inl (g 2, 40, .inr (.inl it2))), (as 6, .inr (3, [.int so3, .int (nI ln3), .ref (as 7)])), (as 7, .inl (g 2, 40, .inr (.inl it3)))]) rfl ?_
          refine s_bif_eq (tgt := 60) B dX8_item_46 rfl (fun h46 => ?_) (fun h46 => ?_)
          · refine s_bipush B dX8_item_60 bp_m12 ?_
            refine s_iret B hQ hr dX8_item_62 rfl ?_
            exact ⟨(by clear hQ B hr hsc; have ec0 : (nI 0).toNatClampNeg = 0 := (by decide); have ec1 : (nI 1).toNatClampNeg = 1 := (by decide); have ec2 : (nI 2).toNatClampNeg = 2 := (by decide); have ec3 : (nI 3).toNatClampNeg = 3 := (by decide); have ek0 : (nI k_7).toNatClampNeg = k_7 := nI_clamp (by omega); grind [mItC, mRef, v4, v4L]), rfl⟩
          · obtain ⟨k_31, hk_32, rfl⟩ := nat_lt2 (N := ln3) h46.1 h46.2 (by omega)
            refine s_aload B dX8_item_49 1 rfl ?_
            refine s_get (T := TX3) B inX3 8 rfl rfl 2 (Nat.le_of_ble_eq_true rfl) fl_X8_229 rfl rfl dX8_item_51 ?_
            refine s_iload_n B dX8_item_54 rfl 5 rfl ?_
            refine s_laldN B 9 2 rfl rfl dX8_item_55 (by omega) (by decide) ?_
            refine s_l2i B dX8_item_56 rfl ?_
            refine s_goto (tgt := 62) B dX8_item_57 rfl ?_
            refine s_iret B hQ hr dX8_item_62 rfl ?_
            exact ⟨(it_ok (so := v4 so0 so1 so2 so3) (ln := v4 (nI ln0) (nI ln1) (nI ln2) (nI ln3)) (it := v4L it0 it1 it2 it3) (j := 3) (k := k_7) (i := k_31) (n := ln3) (w := so3) (x := it3 k_31) (by decide) (by omega) (by omega) (by omega) rfl rfl rfl (Int32.not_lt.mpr h34)), rfl⟩
        · refine s_iload B dX8_item_37 0 rfl ?_
          refine s_iret B hQ hr dX8_item_39 rfl ?_
          exact ⟨(by clear hQ B hr hsc; have ec0 : (nI 0).toNatClampNeg = 0 := (by decide); have ec1 : (nI 1).toNatClampNeg = 1 := (by decide); have ec2 : (nI 2).toNatClampNeg = 2 := (by decide); have ec3 : (nI 3).toNatClampNeg = 3 := (by decide); have ek0 : (nI k_7).toNatClampNeg = k_7 := nI_clamp (by omega); grind [mItC, mRef, v4, v4L]), rfl⟩
    · refine s_iconst B dX8_item_14 ic_m1 ?_
      refine s_iret B hQ hr dX8_item_15 rfl ?_
      exact ⟨(by clear hQ B hr hsc; have ec0 : (nI 0).toNatClampNeg = 0 := (by decide); have ec1 : (nI 1).toNatClampNeg = 1 := (by decide); have ec2 : (nI 2).toNatClampNeg = 2 := (by decide); have ec3 : (nI 3).toNatClampNeg = 3 := (by decide); have ek0 : (nI k_3).toNatClampNeg = k_3 := nI_clamp (by omega); grind [mItC, mRef, v4, v4L]), rfl⟩
def rmX8_events : Room := { frames := 1, cells := 0, slots := 0, locals := 21 }
theorem hd_X8_events : yX8_events.cls = RX8 ∧ yX8_events.cls ≠ "java/lang/invoke/MethodHandle" ∧ yX8_events.cls ≠ "java/lang/invoke/VarHandle" ∧ (parseMethodDescriptor yX8_events.desc).map (fun d => d.parameters.length) = some 4 := by decide +kernel
set_option maxHeartbeats 4000000 in
set_option maxRecDepth 100000 in
theorem c_X8_events (l : Launch) (D : va_G) (g : Nat → ClassId) (bo : Nat) (an : Nat → Nat) (ak : Nat → Nat) (bT : Nat) (hT : Nat) (ar : Nat → Nat) (bS : Nat) (bV : Nat) (th : Nat → Nat) (as : Nat → Nat) (ik : Int32) (n : Nat) (td : Nat) (z : Int32) (kd : Nat → Int32) (ka : Nat → Int32) (ho : Nat → Int32) (fa : Nat → Int32) (si : Nat → Int32) (kn : Nat → Int32) (aw : Nat → Int32) (ev : Nat → Int32) (cr : Nat → Int32) (tr : Nat → Int32) (lw : Nat → Int32) (q : Nat → Int32) (so0 : Int32) (ln0 : Nat) (it0 : Nat → Int64) (so1 : Int32) (ln1 : Nat) (it1 : Nat → Int64) (so2 : Int32) (ln2 : Nat) (it2 : Nat → Int64) (so3 : Int32) (ln3 : Nat) (it3 : Nat → Int64) (s0 : Int32) (i0 : Int32) (d0 : Int32) (n0 : Int32)  (hb_n : n ≤ 8) (hb_td : td ≤ 40) (hb_ln0 : ln0 ≤ 40) (hb_ln1 : ln1 ≤ 40) (hb_ln2 : ln2 ≤ 40) (hb_ln3 : ln3 ≤ 40) : Ci l yX8_events (WW yX8_events cX8_events 8 (some FieldType.int)) rmX8_events D vwCl (TY g) [.ref bo, .int s0, .int i0, .int d0, .int n0] [(bo, .inr (8, [.ref (an 0), .ref (ak 0), .int ik, .ref (bT), .ref (hT), .ref (ar 0), .ref bS, .ref (bV), .ref (th 0)])), (an 0, .inr (2, [.ref (an 1), .ref (an 2), .ref (an 3), .ref (an 4), .ref (an 5), .ref (an 6), .ref (an 7), .int (nI n), .ref (an 8), .ref (an 9), .ref (an 10), .ref (an 11), .int (nI td), .int z, .ref (an 12)])), (an 1, .inl (g 0, 8, .inl kd)), (an 2, .inl (g 0, 8, .inl ka)), (an 3, .inl (g 0, 8, .inl ho)), (an 4, .inl (g 0, 8, .inl fa)), (an 5, .inl (g 0, 8, .inl si)), (an 6, .inl (g 0, 8, .inl kn)), (an 7, .inl (g 0, 8, .inl aw)), (an 8, .inl (g 0, 40, .inl ev)), (an 9, .inl (g 0, 40, .inl cr)), (an 10, .inl (g 0, 40, .inl tr)), (an 11, .inl (g 0, 4, .inl lw)), (an 12, .inr (0, [.int (q 0), .int (q 1), .int (q 2), .int (q 3), .int (q 4), .int (q 5), .int (q 6), .int (q 7), .int (q 8)])), (bS, .inl (g 3, 4, .inr (.inr (.inr (.inr (fun j => some (as (2 * j)))))))), (as 0, .inr (3, [.int so0, .int (nI ln0), .ref (as 1)])), (as 1, .inl (g 2, 40, .inr (.inl it0))), (as 2, .inr (3, [.int so1, .int (nI ln1), .ref (as 3)])), (as 3, .inl (g 2, 40, .inr (.inl it1))), (as 4, .inr (3, [.int so2, .int (nI ln2), .ref (as 5)])), (as 5, .inl (g 2, 40, .inr (.inl it2))), (as 6, .inr (3, [.int so3, .int (nI ln3), .ref (as 7)])), (as 7, .inl (g 2, 40, .inr (.inl it3)))] (fun r u => ∃ (ev' : Nat → Int32), (r = mEvC s0 i0 d0 n0 (v4 so0 so1 so2 so3) (v4 (nI ln0) (nI ln1) (nI ln2) (nI ln3))) ∧ (((n, kd, ka, ho, fa, si, kn, aw, ev', cr, tr, lw, td, z) : MG) = gEvs r s0 i0 d0 n0 (v4L it0 it1 it2 it3) (n, kd, ka, ho, fa, si, kn, aw, ev, cr, tr, lw, td, z)) ∧ u = [(bo, .inr (8, [.ref (an 0), .ref (ak 0), .int ik, .ref (bT), .ref (hT), .ref (ar 0), .ref bS, .ref (bV), .ref (th 0)])), (an 0, .inr (2, [.ref (an 1), .ref (an 2), .ref (an 3), .ref (an 4), .ref (an 5), .ref (an 6), .ref (an 7), .int (nI n), .ref (an 8), .ref (an 9), .ref (an 10), .ref (an 11), .int (nI td), .int z, .ref (an 12)])), (an 1, .inl (g 0, 8, .inl kd)), (an 2, .inl (g 0, 8, .inl ka)), (an 3, .inl (g 0, 8, .inl ho)), (an 4, .inl (g 0, 8, .inl fa)), (an 5, .inl (g 0, 8, .inl si)), (an 6, .inl (g 0, 8, .inl kn)), (an 7, .inl (g 0, 8, .inl aw)), (an 8, .inl (g 0, 40, .inl ev')), (an 9, .inl (g 0, 40, .inl cr)), (an 10, .inl (g 0, 40, .inl tr)), (an 11, .inl (g 0, 4, .inl lw)), (an 12, .inr (0, [.int (q 0), .int (q 1), .int (q 2), .int (q 3), .int (q 4), .int (q 5), .int (q 6), .int (q 7), .int (q 8)])), (bS, .inl (g 3, 4, .inr (.inr (.inr (.inr (fun j => some (as (2 * j)))))))), (as 0, .inr (3, [.int so0, .int (nI ln0), .ref (as 1)])), (as 1, .inl (g 2, 40, .inr (.inl it0))), (as 2, .inr (3, [.int so1, .int (nI ln1), .ref (as 3)])), (as 3, .inl (g 2, 40, .inr (.inl it1))), (as 4, .inr (3, [.int so2, .int (nI ln2), .ref (as 5)])), (as 5, .inl (g 2, 40, .inr (.inl it2))), (as 6, .inr (3, [.int so3, .int (nI ln3), .ref (as 7)])), (as 7, .inl (g 2, 40, .inr (.inl it3)))]) := by
  refine ci_in (by decide) (Nat.le_of_ble_eq_true rfl) (a0 := [bo, an 0, an 1, an 2, an 3, an 4, an 5, an 6, an 7, an 8, an 9, an 10, an 11, an 12, bS, as 0, as 1, as 2, as 3, as 4, as 5, as 6, as 7]) rfl (fun p e s m args below meth c A Q hQ B hr hsc => ?_)
  refine s_iload_n B dX8_events_0 rfl 1 rfl ?_
  refine s_callSi B hsc (c_X8_isSheet l D g s0) (gw_S ml_X8_220 sm_yX8_isSheet ini_RX8 co_yX8_isSheet) hd_X8_isSheet rfl rfl ⟨(Nat.le_of_ble_eq_true rfl), (Nat.le_of_ble_eq_true rfl)⟩ [] [0, 1, 2, 3, 4] rfl rfl rfl rfl rfl (Nat.le_of_ble_eq_true rfl) dX8_events_1 (fun r_1 u_2 hpo => ?_)
  obtain ⟨rfl, rfl⟩ := hpo
  refine s_st (st' := [.int (if ¬ s0 < 0 ∧ s0 < 4 then 1 else 0)]) rfl ?_
  refine s_ws (ws' := [(bo, .inr (8, [.ref (an 0), .ref (ak 0), .int ik, .ref (bT), .ref (hT), .ref (ar 0), .ref bS, .ref (bV), .ref (th 0)])), (an 0, .inr (2, [.ref (an 1), .ref (an 2), .ref (an 3), .ref (an 4), .ref (an 5), .ref (an 6), .ref (an 7), .int (nI n), .ref (an 8), .ref (an 9), .ref (an 10), .ref (an 11), .int (nI td), .int z, .ref (an 12)])), (an 1, .inl (g 0, 8, .inl kd)), (an 2, .inl (g 0, 8, .inl ka)), (an 3, .inl (g 0, 8, .inl ho)), (an 4, .inl (g 0, 8, .inl fa)), (an 5, .inl (g 0, 8, .inl si)), (an 6, .inl (g 0, 8, .inl kn)), (an 7, .inl (g 0, 8, .inl aw)), (an 8, .inl (g 0, 40, .inl ev)), (an 9, .inl (g 0, 40, .inl cr)), (an 10, .inl (g 0, 40, .inl tr)), (an 11, .inl (g 0, 4, .inl lw)), (an 12, .inr (0, [.int (q 0), .int (q 1), .int (q 2), .int (q 3), .int (q 4), .int (q 5), .int (q 6), .int (q 7), .int (q 8)])), (bS, .inl (g 3, 4, .inr (.inr (.inr (.inr (fun j => some (as (2 * j)))))))), (as 0, .inr (3, [.int so0, .int (nI ln0), .ref (as 1)])), (as 1, .inl (g 2, 40, .inr (.inl it0))), (as 2, .inr (3, [.int so1, .int (nI ln1), .ref (as 3)])), (as 3, .inl (g 2, 40, .inr (.inl it1))), (as 4, .inr (3, [.int so2, .int (nI ln2), .ref (as 5)])), (as 5, .inl (g 2, 40, .inr (.inl it2))), (as 6, .inr (3, [.int so3, .int (nI ln3), .ref (as 7)])), (as 7, .inl (g 2, 40, .inr (.inl it3)))]) rfl ?_
  refine s_bif_eq (tgt := 28) B dX8_events_4 rfl (fun h4 => ?_) (fun h4 => ?_)
  · refine s_iconst B dX8_events_28 ic_m1 ?_
    refine s_iret B hQ hr dX8_events_29 rfl ?_
    exact ⟨ev, by clear hQ B hr hsc; have ec0 : (nI 0).toNatClampNeg = 0 := (by decide); have ec1 : (nI 1).toNatClampNeg = 1 := (by decide); have ec2 : (nI 2).toNatClampNeg = 2 := (by decide); have ec3 : (nI 3).toNatClampNeg = 3 := (by decide); grind [mEvC, mRef, v4], (gEvs_no (by first | decide | (clear hQ B hr hsc; grind))), rfl⟩
  · obtain ⟨k_3, hk_4, rfl⟩ := nat_lt2 (N := 4) h4.1 h4.2 (by omega)
    refine s_iload_n B dX8_events_7 rfl 3 rfl ?_
    refine s_callSi B hsc (c_X8_isDay l D g d0) (gw_S ml_X8_119 sm_yX8_isDay ini_RX8 co_yX8_isDay) hd_X8_isDay rfl rfl ⟨(Nat.le_of_ble_eq_true rfl), (Nat.le_of_ble_eq_true rfl)⟩ [] [0, 1, 2, 3, 4] rfl rfl rfl rfl rfl (Nat.le_of_ble_eq_true rfl) dX8_events_8 (fun r_5 u_6 hpo => ?_)
    obtain ⟨rfl, rfl⟩ := hpo
    refine s_st (st' := [.int (if ¬ d0 < 0 ∧ d0 < 40 then 1 else 0)]) rfl ?_
    refine s_ws (ws' := [(bo, .inr (8, [.ref (an 0), .ref (ak 0), .int ik, .ref (bT), .ref (hT), .ref (ar 0), .ref bS, .ref (bV), .ref (th 0)])), (an 0, .inr (2, [.ref (an 1), .ref (an 2), .ref (an 3), .ref (an 4), .ref (an 5), .ref (an 6), .ref (an 7), .int (nI n), .ref (an 8), .ref (an 9), .ref (an 10), .ref (an 11), .int (nI td), .int z, .ref (an 12)])), (an 1, .inl (g 0, 8, .inl kd)), (an 2, .inl (g 0, 8, .inl ka)), (an 3, .inl (g 0, 8, .inl ho)), (an 4, .inl (g 0, 8, .inl fa)), (an 5, .inl (g 0, 8, .inl si)), (an 6, .inl (g 0, 8, .inl kn)), (an 7, .inl (g 0, 8, .inl aw)), (an 8, .inl (g 0, 40, .inl ev)), (an 9, .inl (g 0, 40, .inl cr)), (an 10, .inl (g 0, 40, .inl tr)), (an 11, .inl (g 0, 4, .inl lw)), (an 12, .inr (0, [.int (q 0), .int (q 1), .int (q 2), .int (q 3), .int (q 4), .int (q 5), .int (q 6), .int (q 7), .int (q 8)])), (bS, .inl (g 3, 4, .inr (.inr (.inr (.inr (fun j => some (as (2 * j)))))))), (as 0, .inr (3, [.int so0, .int (nI ln0), .ref (as 1)])), (as 1, .inl (g 2, 40, .inr (.inl it0))), (as 2, .inr (3, [.int so1, .int (nI ln1), .ref (as 3)])), (as 3, .inl (g 2, 40, .inr (.inl it1))), (as 4, .inr (3, [.int so2, .int (nI ln2), .ref (as 5)])), (as 5, .inl (g 2, 40, .inr (.inl it2))), (as 6, .inr (3, [.int so3, .int (nI ln3), .ref (as 7)])), (as 7, .inl (g 2, 40, .inr (.inl it3)))]) rfl ?_
    refine s_bif_eq (tgt := 28) B dX8_events_11 rfl (fun h11 => ?_) (fun h11 => ?_)
    · refine s_iconst B dX8_events_28 ic_m1 ?_
      refine s_iret B hQ hr dX8_events_29 rfl ?_
      exact ⟨ev, by clear hQ B hr hsc; have ec0 : (nI 0).toNatClampNeg = 0 := (by decide); have ec1 : (nI 1).toNatClampNeg = 1 := (by decide); have ec2 : (nI 2).toNatClampNeg = 2 := (by decide); have ec3 : (nI 3).toNatClampNeg = 3 := (by decide); grind [mEvC, mRef, v4], (gEvs_no (by first | decide | (clear hQ B hr hsc; grind))), rfl⟩
    · obtain ⟨k_7, hk_8, rfl⟩ := nat_lt2 (N := 40) h11.1 h11.2 (by omega)
      refine s_iload B dX8_events_14 4 rfl ?_
      refine s_if_lt (tgt := 28) B dX8_events_16 rfl (fun h16 => ?_) (fun h16 => ?_)
      · refine s_iconst B dX8_events_28 ic_m1 ?_
        refine s_iret B hQ hr dX8_events_29 rfl ?_
        exact ⟨ev, by clear hQ B hr hsc; have ec0 : (nI 0).toNatClampNeg = 0 := (by decide); have ec1 : (nI 1).toNatClampNeg = 1 := (by decide); have ec2 : (nI 2).toNatClampNeg = 2 := (by decide); have ec3 : (nI 3).toNatClampNeg = 3 := (by decide); grind [mEvC, mRef, v4], (gEvs_no (by first | decide | (clear hQ B hr hsc; grind))), rfl⟩
      · refine s_iload B dX8_events_19 4 rfl ?_
        refine s_bipush B dX8_events_21 bp_40 ?_
        refine s_iload_n B dX8_events_23 rfl 3 rfl ?_
        refine s_isub B dX8_events_24 ?_
        refine s_icmp_le (tgt := 30) B dX8_events_25 rfl (fun h25 => ?_) (fun h25 => ?_)
        · obtain ⟨km, hkn, rfl⟩ := nat_sub (a := 40) (b := k_7) (Int32.not_lt.mpr (Int32.not_lt.mp h16)) h25 (by omega) (by omega)
          refine s_aload_n B dX8_events_30 rfl 0 rfl ?_
          refine s_get (T := TX8) B inX8 0 rfl rfl 6 (Nat.le_of_ble_eq_true rfl) fl_X8_46 rfl rfl dX8_events_31 ?_
          refine s_iload_n B dX8_events_34 rfl 1 rfl ?_
          rcases (show k_3 = 0 ∨ k_3 = 1 ∨ k_3 = 2 ∨ k_3 = 3 from by omega) with rfl | rfl | rfl | rfl
          · refine s_aldqN B 14 3 rfl rfl dX8_events_35 (by omega) (by decide) rfl ?_
            refine s_astore (lv' := [(5, _), (0, _), (1, _), (2, _), (3, _), (4, _)]) B dX8_events_36 (Nat.le_of_ble_eq_true rfl) rfl ?_
            refine s_aload B dX8_events_38 0 rfl ?_
            refine s_iconst B dX8_events_40 ic_0 ?_
            refine s_callVi B hsc (c_X3_refusalAs l D g (fun i => as (0 + i)) so0 (nI ln0) it0 0) (gw_V ml_X8_223 im_yX3_refusalAs se_yX3_refusalAs ini_RX3 co_yX3_refusalAs) hd_X3_refusalAs rfl rfl ⟨(Nat.le_of_ble_eq_true rfl), (Nat.le_of_ble_eq_true rfl)⟩ [15, 16] [0, 1, 2, 3, 4] rfl rfl rfl (ci := 3) (q0 := 0) rfl rfl rfl rfl rfl (Nat.le_of_ble_eq_true rfl) dX8_events_41 (fun r_9 u_10 hpo => ?_)
            obtain ⟨rfl, rfl⟩ := hpo
            refine s_st (st' := [.int (mRef so0 0)]) rfl ?_
            refine s_ws (ws' := [(bo, .inr (8, [.ref (an 0), .ref (ak 0), .int ik, .ref (bT), .ref (hT), .ref (ar 0), .ref bS, .ref (bV), .ref (th 0)])), (an 0, .inr (2, [.ref (an 1), .ref (an 2), .ref (an 3), .ref (an 4), .ref (an 5), .ref (an 6), .ref (an 7), .int (nI n), .ref (an 8), .ref (an 9), .ref (an 10), .ref (an 11), .int (nI td), .int z, .ref (an 12)])), (an 1, .inl (g 0, 8, .inl kd)), (an 2, .inl (g 0, 8, .inl ka)), (an 3, .inl (g 0, 8, .inl ho)), (an 4, .inl (g 0, 8, .inl fa)), (an 5, .inl (g 0, 8, .inl si)), (an 6, .inl (g 0, 8, .inl kn)), (an 7, .inl (g 0, 8, .inl aw)), (an 8, .inl (g 0, 40, .inl ev)), (an 9, .inl (g 0, 40, .inl cr)), (an 10, .inl (g 0, 40, .inl tr)), (an 11, .inl (g 0, 4, .inl lw)), (an 12, .inr (0, [.int (q 0), .int (q 1), .int (q 2), .int (q 3), .int (q 4), .int (q 5), .int (q 6), .int (q 7), .int (q 8)])), (bS, .inl (g 3, 4, .inr (.inr (.inr (.inr (fun j => some (as (2 * j)))))))), (as 0, .inr (3, [.int so0, .int (nI ln0), .ref (as 1)])), (as 1, .inl (g 2, 40, .inr (.inl it0))), (as 2, .inr (3, [.int so1, .int (nI ln1), .ref (as 3)])), (as 3, .inl (g 2, 40, .inr (.inl it1))), (as 4, .inr (3, [.int so2, .int (nI ln2), .ref (as 5)])), (as 5, .inl (g 2, 40, .inr (.inl it2))), (as 6, .inr (3, [.int so3, .int (nI ln3), .ref (as 7)])), (as 7, .inl (g 2, 40, .inr (.inl it3)))]) rfl ?_
            refine s_istore (lv' := [(6, _), (5, _), (0, _), (1, _), (2, _), (3, _), (4, _)]) B dX8_events_44 (Nat.le_of_ble_eq_true rfl) rfl ?_
            refine s_iload B dX8_events_46 0 rfl ?_
            refine s_if_ge (tgt := 54) B dX8_events_48 rfl (fun h48 => ?_) (fun h48 => ?_)
            · refine s_iload_n B dX8_events_54 rfl 4 rfl ?_
              refine s_if_lt (tgt := 79) B dX8_events_55 rfl (fun h55 => ?_) (fun h55 => ?_)
              · refine s_bipush B dX8_events_79 bp_m12 ?_
                refine s_iret B hQ hr dX8_events_81 rfl ?_
                exact ⟨ev, by clear hQ B hr hsc; have ec0 : (nI 0).toNatClampNeg = 0 := (by decide); have ec1 : (nI 1).toNatClampNeg = 1 := (by decide); have ec2 : (nI 2).toNatClampNeg = 2 := (by decide); have ec3 : (nI 3).toNatClampNeg = 3 := (by decide); grind [mEvC, mRef, v4], (gEvs_no (by first | decide | (clear hQ B hr hsc; grind))), rfl⟩
              · refine s_iload_n B dX8_events_58 rfl 4 rfl ?_
                refine s_aload B dX8_events_59 1 rfl ?_
                refine s_get (T := TX3) B inX3 15 rfl rfl 1 (Nat.le_of_ble_eq_true rfl) fl_X8_226 rfl rfl dX8_events_61 ?_
                refine s_icmp_gt (tgt := 79) B dX8_events_64 rfl (fun h64 => ?_) (fun h64 => ?_)
                · refine s_bipush B dX8_events_79 bp_m12 ?_
                  refine s_iret B hQ hr dX8_events_81 rfl ?_
                  exact ⟨ev, by clear hQ B hr hsc; have ec0 : (nI 0).toNatClampNeg = 0 := (by decide); have ec1 : (nI 1).toNatClampNeg = 1 := (by decide); have ec2 : (nI 2).toNatClampNeg = 2 := (by decide); have ec3 : (nI 3).toNatClampNeg = 3 := (by decide); grind [mEvC, mRef, v4], (gEvs_no (by first | decide | (clear hQ B hr hsc; grind))), rfl⟩
                · refine s_iload B dX8_events_67 6 rfl ?_
                  refine s_aload B dX8_events_69 1 rfl ?_
                  refine s_get (T := TX3) B inX3 15 rfl rfl 1 (Nat.le_of_ble_eq_true rfl) fl_X8_226 rfl rfl dX8_events_71 ?_
                  refine s_iload_n B dX8_events_74 rfl 4 rfl ?_
                  refine s_isub B dX8_events_75 ?_
                  refine s_icmp_le (tgt := 82) B dX8_events_76 rfl (fun h76 => ?_) (fun h76 => ?_)
                  · obtain ⟨ki, hki0, rfl⟩ := nat_le (N := ln0) (Int32.not_lt.mpr (Int32.not_lt.mp h55)) h64 (by omega)
                    have hki : km + ki ≤ ln0 := by obtain ⟨k9, h91, h92⟩ := nat_sub (a := ln0) (b := ki) (nI_pos (n := km) (by omega)) h76 (by omega) (by omega); have h93 := (nI_eq (a := km) (b := k9) (by omega) (by omega)).mp h92; omega
                    refine s_iconst B dX8_events_82 ic_0 ?_
                    have L85 : ∀ (jj85 : Nat) (k_17 : Nat) (ev_19 : Nat → Int32), 40 - k_17 < jj85 → (n ≤ 8) → (td ≤ 40) → (ln0 ≤ 40) → (ln1 ≤ 40) → (ln2 ≤ 40) → (ln3 ≤ 40) → (¬ (nI 0) < 0 ∧ (nI 0) < 4) → (0 < 4) → (¬ (nI k_7) < 0 ∧ (nI k_7) < 40) → (k_7 < 40) → (¬ (nI km) < 0) → ((nI km) ≤ (40 - (nI k_7))) → (km + k_7 ≤ 40) → (0 ≤ (mRef so0 0)) → (¬ (nI ki) < 0) → (¬ (nI ln0) < (nI ki)) → ((nI km) ≤ ((nI ln0) - (nI ki))) → (km + ki ≤ ln0) → (k_17 ≤ 40) → (k_17 ≤ km) → (ev_19 = mFd (fun j => (it0 (ki + j)).toInt32 &&& 31) ev k_7 k_17) → Sx p l e rmX8_events s m args below meth c D vwCl A 8 Q 85 [(0, .ref bo), (2, .int (nI ki)), (3, .int (nI k_7)), (4, .int (nI km)), (5, .ref (as 0)), (7, .int (nI k_17))] [] [(bo, .inr (8, [.ref (an 0), .ref (ak 0), .int ik, .ref (bT), .ref (hT), .ref (ar 0), .ref bS, .ref (bV), .ref (th 0)])), (an 0, .inr (2, [.ref (an 1), .ref (an 2), .ref (an 3), .ref (an 4), .ref (an 5), .ref (an 6), .ref (an 7), .int (nI n), .ref (an 8), .ref (an 9), .ref (an 10), .ref (an 11), .int (nI td), .int z, .ref (an 12)])), (an 1, .inl (g 0, 8, .inl kd)), (an 2, .inl (g 0, 8, .inl ka)), (an 3, .inl (g 0, 8, .inl ho)), (an 4, .inl (g 0, 8, .inl fa)), (an 5, .inl (g 0, 8, .inl si)), (an 6, .inl (g 0, 8, .inl kn)), (an 7, .inl (g 0, 8, .inl aw)), (an 8, .inl (g 0, 40, .inl ev_19)), (an 9, .inl (g 0, 40, .inl cr)), (an 10, .inl (g 0, 40, .inl tr)), (an 11, .inl (g 0, 4, .inl lw)), (an 12, .inr (0, [.int (q 0), .int (q 1), .int (q 2), .int (q 3), .int (q 4), .int (q 5), .int (q 6), .int (q 7), .int (q 8)])), (bS, .inl (g 3, 4, .inr (.inr (.inr (.inr (fun j => some (as (2 * j)))))))), (as 0, .inr (3, [.int so0, .int (nI ln0), .ref (as 1)])), (as 1, .inl (g 2, 40, .inr (.inl it0))), (as 2, .inr (3, [.int so1, .int (nI ln1), .ref (as 3)])), (as 3, .inl (g 2, 40, .inr (.inl it1))), (as 4, .inr (3, [.int so2, .int (nI ln2), .ref (as 5)])), (as 5, .inl (g 2, 40, .inr (.inl it2))), (as 6, .inr (3, [.int so3, .int (nI ln3), .ref (as 7)])), (as 7, .inl (g 2, 40, .inr (.inl it3)))] := by
                      intro jj85
                      induction jj85 with
                      | zero => intro k_17 ev_19 hj; exact absurd hj (Nat.not_lt_zero _)
                      | succ jj85 ih85 =>
                        intro k_17 ev_19 hj85 hb_n hb_td hb_ln0 hb_ln1 hb_ln2 hb_ln3 h4 hk_4 h11 hk_8 h16 h25 hkn h48 h55 h64 h76 hki h_18 hj_20 hE_21
                        refine s_iload B dX8_events_85 5 rfl ?_
                        refine s_iload B dX8_events_87 3 rfl ?_
                        refine s_icmp_ge (tgt := 124) B dX8_events_89 rfl (fun h89 => ?_) (fun h89 => ?_)
                        · replace h89 : km ≤ k_17 := (nI_leI (a := km) (b := k_17) (by omega) (by omega)).mp h89
                          refine s_iload B dX8_events_124 3 rfl ?_
                          refine s_iret B hQ hr dX8_events_126 rfl ?_
                          exact ⟨ev_19, by clear hQ B hr hsc; have ec0 : (nI 0).toNatClampNeg = 0 := (by decide); have ec1 : (nI 1).toNatClampNeg = 1 := (by decide); have ec2 : (nI 2).toNatClampNeg = 2 := (by decide); have ec3 : (nI 3).toNatClampNeg = 3 := (by decide); grind [mEvC, mRef, v4], (gEvs_ok (G := (n, kd, ka, ho, fa, si, kn, aw, ev, cr, tr, lw, td, z)) (by omega) (by omega) (by omega) (by omega) (hE_21.trans (by rw [show k_17 = km from by omega]; rfl))), rfl⟩
                        · replace h89 : ¬ km ≤ k_17 := fun hh => h89 ((nI_leI (a := km) (b := k_17) (by omega) (by omega)).mpr hh)
                          refine s_aload_n B dX8_events_92 rfl 0 rfl ?_
                          refine s_get (T := TX8) B inX8 0 rfl rfl 0 (Nat.le_of_ble_eq_true rfl) fl_X8_10 rfl rfl dX8_events_93 ?_
                          refine s_get (T := TX2) B inX2 1 rfl rfl 8 (Nat.le_of_ble_eq_true rfl) fl_X8_122 rfl rfl dX8_events_96 ?_
                          refine s_iload_n B dX8_events_99 rfl 2 rfl ?_
                          refine s_iload B dX8_events_100 5 rfl ?_
                          refine s_iaddE B dX8_events_102 (nI_add k_7 k_17) ?_
                          refine s_aload B dX8_events_103 4 rfl ?_
                          refine s_get (T := TX3) B inX3 15 rfl rfl 2 (Nat.le_of_ble_eq_true rfl) fl_X8_229 rfl rfl dX8_events_105 ?_
                          refine s_iload_n B dX8_events_108 rfl 1 rfl ?_
                          refine s_iload B dX8_events_109 5 rfl ?_
                          refine s_iaddE B dX8_events_111 (nI_add ki k_17) ?_
                          refine s_laldN B 16 2 rfl rfl dX8_events_112 (by omega) (by decide) ?_
                          refine s_l2i B dX8_events_113 rfl ?_
                          refine s_bipush B dX8_events_114 bp_31 ?_
                          refine s_iand B dX8_events_116 ?_
                          refine s_iastN (ws' := [_, _, _, _, _, _, _, _, _, _, _, _, _, _, _, _, _, _, _, _, _, _, _]) B 9 0 rfl rfl rfl dX8_events_117 (by omega) (by decide) ?_
                          refine s_iinc (lv' := [(7, _), (0, _), (2, _), (3, _), (4, _), (5, _)]) (k := 5) B dX8_events_118 rfl (ii_n _) (Nat.le_of_ble_eq_true rfl) rfl ?_
                          refine s_goto (tgt := 85) B dX8_events_121 rfl ?_
                          refine s_lv (lv' := [(0, _), (2, _), (3, _), (4, _), (5, _), (7, _)]) [1, 2, 3, 4, 5, 0] rfl ?_
                          exact ih85 (k_17 + 1) (upd ev_19 (k_7 + k_17) (((it0 (ki + k_17)).toInt32) &&& 31)) (by omega) hb_n hb_td hb_ln0 hb_ln1 hb_ln2 hb_ln3 h4 hk_4 h11 hk_8 h16 h25 hkn h48 h55 h64 h76 hki (by omega) (by omega) (mFd_u hE_21 rfl rfl)
                    refine s_istore (lv' := [(7, _), (6, _), (5, _), (0, _), (1, _), (2, _), (3, _), (4, _)]) B dX8_events_83 (Nat.le_of_ble_eq_true rfl) rfl ?_
                    refine s_lv (lv' := [(0, _), (2, _), (3, _), (4, _), (5, _), (7, _)]) [3, 5, 6, 7, 2, 0] rfl ?_
                    refine s_lve (lv' := [(0, .ref bo), (2, .int (nI ki)), (3, .int (nI k_7)), (4, .int (nI km)), (5, .ref (as 0)), (7, .int (nI 0))]) (by first | rfl | (simp only [if_pos, if_neg]; done)) ?_
                    exact L85 _ 0 ev (Nat.lt_succ_self _) hb_n hb_td hb_ln0 hb_ln1 hb_ln2 hb_ln3 h4 hk_4 h11 hk_8 h16 h25 hkn h48 h55 h64 h76 hki (by omega) (by omega) (mFd_0 _ _ _)
                  · refine s_bipush B dX8_events_79 bp_m12 ?_
                    refine s_iret B hQ hr dX8_events_81 rfl ?_
                    exact ⟨ev, by clear hQ B hr hsc; have ec0 : (nI 0).toNatClampNeg = 0 := (by decide); have ec1 : (nI 1).toNatClampNeg = 1 := (by decide); have ec2 : (nI 2).toNatClampNeg = 2 := (by decide); have ec3 : (nI 3).toNatClampNeg = 3 := (by decide); grind [mEvC, mRef, v4], (gEvs_no (by first | decide | (clear hQ B hr hsc; grind))), rfl⟩
            · refine s_iload B dX8_events_51 0 rfl ?_
              refine s_iret B hQ hr dX8_events_53 rfl ?_
              exact ⟨ev, by clear hQ B hr hsc; have ec0 : (nI 0).toNatClampNeg = 0 := (by decide); have ec1 : (nI 1).toNatClampNeg = 1 := (by decide); have ec2 : (nI 2).toNatClampNeg = 2 := (by decide); have ec3 : (nI 3).toNatClampNeg = 3 := (by decide); grind [mEvC, mRef, v4], (gEvs_no (by first | decide | (clear hQ B hr hsc; grind))), rfl⟩
          · refine s_aldqN B 14 3 rfl rfl dX8_events_35 (by omega) (by decide) rfl ?_
            refine s_astore (lv' := [(5, _), (0, _), (1, _), (2, _), (3, _), (4, _)]) B dX8_events_36 (Nat.le_of_ble_eq_true rfl) rfl ?_
            refine s_aload B dX8_events_38 0 rfl ?_
            refine s_iconst B dX8_events_40 ic_0 ?_
            refine s_callVi B hsc (c_X3_refusalAs l D g (fun i => as (2 + i)) so1 (nI ln1) it1 0) (gw_V ml_X8_223 im_yX3_refusalAs se_yX3_refusalAs ini_RX3 co_yX3_refusalAs) hd_X3_refusalAs rfl rfl ⟨(Nat.le_of_ble_eq_true rfl), (Nat.le_of_ble_eq_true rfl)⟩ [17, 18] [0, 1, 2, 3, 4] rfl rfl rfl (ci := 3) (q0 := 0) rfl rfl rfl rfl rfl (Nat.le_of_ble_eq_true rfl) dX8_events_41 (fun r_11 u_12 hpo => ?_)
            obtain ⟨rfl, rfl⟩ := hpo
            refine s_st (st' := [.int (mRef so1 0)]) rfl ?_
            refine s_ws (ws' := [(bo, .inr (8, [.ref (an 0), .ref (ak 0), .int ik, .ref (bT), .ref (hT), .ref (ar 0), .ref bS, .ref (bV), .ref (th 0)])), (an 0, .inr (2, [.ref (an 1), .ref (an 2), .ref (an 3), .ref (an 4), .ref (an 5), .ref (an 6), .ref (an 7), .int (nI n), .ref (an 8), .ref (an 9), .ref (an 10), .ref (an 11), .int (nI td), .int z, .ref (an 12)])), (an 1, .inl (g 0, 8, .inl kd)), (an 2, .inl (g 0, 8, .inl ka)), (an 3, .inl (g 0, 8, .inl ho)), (an 4, .inl (g 0, 8, .inl fa)), (an 5, .inl (g 0, 8, .inl si)), (an 6, .inl (g 0, 8, .inl kn)), (an 7, .inl (g 0, 8, .inl aw)), (an 8, .inl (g 0, 40, .inl ev)), (an 9, .inl (g 0, 40, .inl cr)), (an 10, .inl (g 0, 40, .inl tr)), (an 11, .inl (g 0, 4, .inl lw)), (an 12, .inr (0, [.int (q 0), .int (q 1), .int (q 2), .int (q 3), .int (q 4), .int (q 5), .int (q 6), .int (q 7), .int (q 8)])), (bS, .inl (g 3, 4, .inr (.inr (.inr (.inr (fun j => some (as (2 * j)))))))), (as 0, .inr (3, [.int so0, .int (nI ln0), .ref (as 1)])), (as 1, .inl (g 2, 40, .inr (.inl it0))), (as 2, .inr (3, [.int so1, .int (nI ln1), .ref (as 3)])), (as 3, .inl (g 2, 40, .inr (.inl it1))), (as 4, .inr (3, [.int so2, .int (nI ln2), .ref (as 5)])), (as 5, .inl (g 2, 40, .inr (.inl it2))), (as 6, .inr (3, [.int so3, .int (nI ln3), .ref (as 7)])), (as 7, .inl (g 2, 40, .inr (.inl it3)))]) rfl ?_
            refine s_istore (lv' := [(6, _), (5, _), (0, _), (1, _), (2, _), (3, _), (4, _)]) B dX8_events_44 (Nat.le_of_ble_eq_true rfl) rfl ?_
            refine s_iload B dX8_events_46 0 rfl ?_
            refine s_if_ge (tgt := 54) B dX8_events_48 rfl (fun h48 => ?_) (fun h48 => ?_)
            · refine s_iload_n B dX8_events_54 rfl 4 rfl ?_
              refine s_if_lt (tgt := 79) B dX8_events_55 rfl (fun h55 => ?_) (fun h55 => ?_)
              · refine s_bipush B dX8_events_79 bp_m12 ?_
                refine s_iret B hQ hr dX8_events_81 rfl ?_
                exact ⟨ev, by clear hQ B hr hsc; have ec0 : (nI 0).toNatClampNeg = 0 := (by decide); have ec1 : (nI 1).toNatClampNeg = 1 := (by decide); have ec2 : (nI 2).toNatClampNeg = 2 := (by decide); have ec3 : (nI 3).toNatClampNeg = 3 := (by decide); grind [mEvC, mRef, v4], (gEvs_no (by first | decide | (clear hQ B hr hsc; grind))), rfl⟩
              · refine s_iload_n B dX8_events_58 rfl 4 rfl ?_
                refine s_aload B dX8_events_59 1 rfl ?_
                refine s_get (T := TX3) B inX3 17 rfl rfl 1 (Nat.le_of_ble_eq_true rfl) fl_X8_226 rfl rfl dX8_events_61 ?_
                refine s_icmp_gt (tgt := 79) B dX8_events_64 rfl (fun h64 => ?_) (fun h64 => ?_)
                · refine s_bipush B dX8_events_79 bp_m12 ?_
                  refine s_iret B hQ hr dX8_events_81 rfl ?_
                  exact ⟨ev, by clear hQ B hr hsc; have ec0 : (nI 0).toNatClampNeg = 0 := (by decide); have ec1 : (nI 1).toNatClampNeg = 1 := (by decide); have ec2 : (nI 2).toNatClampNeg = 2 := (by decide); have ec3 : (nI 3).toNatClampNeg = 3 := (by decide); grind [mEvC, mRef, v4], (gEvs_no (by first | decide | (clear hQ B hr hsc; grind))), rfl⟩
                · refine s_iload B dX8_events_67 6 rfl ?_
                  refine s_aload B dX8_events_69 1 rfl ?_
                  refine s_get (T := TX3) B inX3 17 rfl rfl 1 (Nat.le_of_ble_eq_true rfl) fl_X8_226 rfl rfl dX8_events_71 ?_
                  refine s_iload_n B dX8_events_74 rfl 4 rfl ?_
                  refine s_isub B dX8_events_75 ?_
                  refine s_icmp_le (tgt := 82) B dX8_events_76 rfl (fun h76 => ?_) (fun h76 => ?_)
                  · obtain ⟨ki, hki0, rfl⟩ := nat_le (N := ln1) (Int32.not_lt.mpr (Int32.not_lt.mp h55)) h64 (by omega)
                    have hki : km + ki ≤ ln1 := by obtain ⟨k9, h91, h92⟩ := nat_sub (a := ln1) (b := ki) (nI_pos (n := km) (by omega)) h76 (by omega) (by omega); have h93 := (nI_eq (a := km) (b := k9) (by omega) (by omega)).mp h92; omega
                    refine s_iconst B dX8_events_82 ic_0 ?_
                    have L85 : ∀ (jj85 : Nat) (k_22 : Nat) (ev_24 : Nat → Int32), 40 - k_22 < jj85 → (n ≤ 8) → (td ≤ 40) → (ln0 ≤ 40) → (ln1 ≤ 40) → (ln2 ≤ 40) → (ln3 ≤ 40) → (¬ (nI 1) < 0 ∧ (nI 1) < 4) → (1 < 4) → (¬ (nI k_7) < 0 ∧ (nI k_7) < 40) → (k_7 < 40) → (¬ (nI km) < 0) → ((nI km) ≤ (40 - (nI k_7))) → (km + k_7 ≤ 40) → (0 ≤ (mRef so1 0)) → (¬ (nI ki) < 0) → (¬ (nI ln1) < (nI ki)) → ((nI km) ≤ ((nI ln1) - (nI ki))) → (km + ki ≤ ln1) → (k_22 ≤ 40) → (k_22 ≤ km) → (ev_24 = mFd (fun j => (it1 (ki + j)).toInt32 &&& 31) ev k_7 k_22) → Sx p l e rmX8_events s m args below meth c D vwCl A 8 Q 85 [(0, .ref bo), (2, .int (nI ki)), (3, .int (nI k_7)), (4, .int (nI km)), (5, .ref (as 2)), (7, .int (nI k_22))] [] [(bo, .inr (8, [.ref (an 0), .ref (ak 0), .int ik, .ref (bT), .ref (hT), .ref (ar 0), .ref bS, .ref (bV), .ref (th 0)])), (an 0, .inr (2, [.ref (an 1), .ref (an 2), .ref (an 3), .ref (an 4), .ref (an 5), .ref (an 6), .ref (an 7), .int (nI n), .ref (an 8), .ref (an 9), .ref (an 10), .ref (an 11), .int (nI td), .int z, .ref (an 12)])), (an 1, .inl (g 0, 8, .inl kd)), (an 2, .inl (g 0, 8, .inl ka)), (an 3, .inl (g 0, 8, .inl ho)), (an 4, .inl (g 0, 8, .inl fa)), (an 5, .inl (g 0, 8, .inl si)), (an 6, .inl (g 0, 8, .inl kn)), (an 7, .inl (g 0, 8, .inl aw)), (an 8, .inl (g 0, 40, .inl ev_24)), (an 9, .inl (g 0, 40, .inl cr)), (an 10, .inl (g 0, 40, .inl tr)), (an 11, .inl (g 0, 4, .inl lw)), (an 12, .inr (0, [.int (q 0), .int (q 1), .int (q 2), .int (q 3), .int (q 4), .int (q 5), .int (q 6), .int (q 7), .int (q 8)])), (bS, .inl (g 3, 4, .inr (.inr (.inr (.inr (fun j => some (as (2 * j)))))))), (as 0, .inr (3, [.int so0, .int (nI ln0), .ref (as 1)])), (as 1, .inl (g 2, 40, .inr (.inl it0))), (as 2, .inr (3, [.int so1, .int (nI ln1), .ref (as 3)])), (as 3, .inl (g 2, 40, .inr (.inl it1))), (as 4, .inr (3, [.int so2, .int (nI ln2), .ref (as 5)])), (as 5, .inl (g 2, 40, .inr (.inl it2))), (as 6, .inr (3, [.int so3, .int (nI ln3), .ref (as 7)])), (as 7, .inl (g 2, 40, .inr (.inl it3)))] := by
                      intro jj85
                      induction jj85 with
                      | zero => intro k_22 ev_24 hj; exact absurd hj (Nat.not_lt_zero _)
                      | succ jj85 ih85 =>
                        intro k_22 ev_24 hj85 hb_n hb_td hb_ln0 hb_ln1 hb_ln2 hb_ln3 h4 hk_4 h11 hk_8 h16 h25 hkn h48 h55 h64 h76 hki h_23 hj_25 hE_26
                        refine s_iload B dX8_events_85 5 rfl ?_
                        refine s_iload B dX8_events_87 3 rfl ?_
                        refine s_icmp_ge (tgt := 124) B dX8_events_89 rfl (fun h89 => ?_) (fun h89 => ?_)
                        · replace h89 : km ≤ k_22 := (nI_leI (a := km) (b := k_22) (by omega) (by omega)).mp h89
                          refine s_iload B dX8_events_124 3 rfl ?_
                          refine s_iret B hQ hr dX8_events_126 rfl ?_
                          exact ⟨ev_24, by clear hQ B hr hsc; have ec0 : (nI 0).toNatClampNeg = 0 := (by decide); have ec1 : (nI 1).toNatClampNeg = 1 := (by decide); have ec2 : (nI 2).toNatClampNeg = 2 := (by decide); have ec3 : (nI 3).toNatClampNeg = 3 := (by decide); grind [mEvC, mRef, v4], (gEvs_ok (G := (n, kd, ka, ho, fa, si, kn, aw, ev, cr, tr, lw, td, z)) (by omega) (by omega) (by omega) (by omega) (hE_26.trans (by rw [show k_22 = km from by omega]; rfl))), rfl⟩
                        · replace h89 : ¬ km ≤ k_22 := fun hh => h89 ((nI_leI (a := km) (b := k_22) (by omega) (by omega)).mpr hh)
                          refine s_aload_n B dX8_events_92 rfl 0 rfl ?_
                          refine s_get (T := TX8) B inX8 0 rfl rfl 0 (Nat.le_of_ble_eq_true rfl) fl_X8_10 rfl rfl dX8_events_93 ?_
                          refine s_get (T := TX2) B inX2 1 rfl rfl 8 (Nat.le_of_ble_eq_true rfl) fl_X8_122 rfl rfl dX8_events_96 ?_
                          refine s_iload_n B dX8_events_99 rfl 2 rfl ?_
                          refine s_iload B dX8_events_100 5 rfl ?_
                          refine s_iaddE B dX8_events_102 (nI_add k_7 k_22) ?_
                          refine s_aload B dX8_events_103 4 rfl ?_
                          refine s_get (T := TX3) B inX3 17 rfl rfl 2 (Nat.le_of_ble_eq_true rfl) fl_X8_229 rfl rfl dX8_events_105 ?_
                          refine s_iload_n B dX8_events_108 rfl 1 rfl ?_
                          refine s_iload B dX8_events_109 5 rfl ?_
                          refine s_iaddE B dX8_events_111 (nI_add ki k_22) ?_
                          refine s_laldN B 18 2 rfl rfl dX8_events_112 (by omega) (by decide) ?_
                          refine s_l2i B dX8_events_113 rfl ?_
                          refine s_bipush B dX8_events_114 bp_31 ?_
                          refine s_iand B dX8_events_116 ?_
                          refine s_iastN (ws' := [_, _, _, _, _, _, _, _, _, _, _, _, _, _, _, _, _, _, _, _, _, _, _]) B 9 0 rfl rfl rfl dX8_events_117 (by omega) (by decide) ?_
                          refine s_iinc (lv' := [(7, _), (0, _), (2, _), (3, _), (4, _), (5, _)]) (k := 5) B dX8_events_118 rfl (ii_n _) (Nat.le_of_ble_eq_true rfl) rfl ?_
                          refine s_goto (tgt := 85) B dX8_events_121 rfl ?_
                          refine s_lv (lv' := [(0, _), (2, _), (3, _), (4, _), (5, _), (7, _)]) [1, 2, 3, 4, 5, 0] rfl ?_
                          exact ih85 (k_22 + 1) (upd ev_24 (k_7 + k_22) (((it1 (ki + k_22)).toInt32) &&& 31)) (by omega) hb_n hb_td hb_ln0 hb_ln1 hb_ln2 hb_ln3 h4 hk_4 h11 hk_8 h16 h25 hkn h48 h55 h64 h76 hki (by omega) (by omega) (mFd_u hE_26 rfl rfl)
                    refine s_istore (lv' := [(7, _), (6, _), (5, _), (0, _), (1, _), (2, _), (3, _), (4, _)]) B dX8_events_83 (Nat.le_of_ble_eq_true rfl) rfl ?_
                    refine s_lv (lv' := [(0, _), (2, _), (3, _), (4, _), (5, _), (7, _)]) [3, 5, 6, 7, 2, 0] rfl ?_
                    refine s_lve (lv' := [(0, .ref bo), (2, .int (nI ki)), (3, .int (nI k_7)), (4, .int (nI km)), (5, .ref (as 2)), (7, .int (nI 0))]) (by first | rfl | (simp only [if_pos, if_neg]; done)) ?_
                    exact L85 _ 0 ev (Nat.lt_succ_self _) hb_n hb_td hb_ln0 hb_ln1 hb_ln2 hb_ln3 h4 hk_4 h11 hk_8 h16 h25 hkn h48 h55 h64 h76 hki (by omega) (by omega) (mFd_0 _ _ _)
                  · refine s_bipush B dX8_events_79 bp_m12 ?_
                    refine s_iret B hQ hr dX8_events_81 rfl ?_
                    exact ⟨ev, by clear hQ B hr hsc; have ec0 : (nI 0).toNatClampNeg = 0 := (by decide); have ec1 : (nI 1).toNatClampNeg = 1 := (by decide); have ec2 : (nI 2).toNatClampNeg = 2 := (by decide); have ec3 : (nI 3).toNatClampNeg = 3 := (by decide); grind [mEvC, mRef, v4], (gEvs_no (by first | decide | (clear hQ B hr hsc; grind))), rfl⟩
            · refine s_iload B dX8_events_51 0 rfl ?_
              refine s_iret B hQ hr dX8_events_53 rfl ?_
              exact ⟨ev, by clear hQ B hr hsc; have ec0 : (nI 0).toNatClampNeg = 0 := (by decide); have ec1 : (nI 1).toNatClampNeg = 1 := (by decide); have ec2 : (nI 2).toNatClampNeg = 2 := (by decide); have ec3 : (nI 3).toNatClampNeg = 3 := (by decide); grind [mEvC, mRef, v4], (gEvs_no (by first | decide | (clear hQ B hr hsc; grind))), rfl⟩
          · refine s_aldqN B 14 3 rfl rfl dX8_events_35 (by omega) (by decide) rfl ?_
            refine s_astore (lv' := [(5, _), (0, _), (1, _), (2, _), (3, _), (4, _)]) B dX8_events_36 (Nat.le_of_ble_eq_true rfl) rfl ?_
            refine s_aload B dX8_events_38 0 rfl ?_
            refine s_iconst B dX8_events_40 ic_0 ?_
            refine s_callVi B hsc (c_X3_refusalAs l D g (fun i => as (4 + i)) so2 (nI ln2) it2 0) (gw_V ml_X8_223 im_yX3_refusalAs se_yX3_refusalAs ini_RX3 co_yX3_refusalAs) hd_X3_refusalAs rfl rfl ⟨(Nat.le_of_ble_eq_true rfl), (Nat.le_of_ble_eq_true rfl)⟩ [19, 20] [0, 1, 2, 3, 4] rfl rfl rfl (ci := 3) (q0 := 0) rfl rfl rfl rfl rfl (Nat.le_of_ble_eq_true rfl) dX8_events_41 (fun r_13 u_14 hpo => ?_)
            obtain ⟨rfl, rfl⟩ := hpo
            refine s_st (st' := [.int (mRef so2 0)]) rfl ?_
            refine s_ws (ws' := [(bo, .inr (8, [.ref (an 0), .ref (ak 0), .int ik, .ref (bT), .ref (hT), .ref (ar 0), .ref bS, .ref (bV), .ref (th 0)])), (an 0, .inr (2, [.ref (an 1), .ref (an 2), .ref (an 3), .ref (an 4), .ref (an 5), .ref (an 6), .ref (an 7), .int (nI n), .ref (an 8), .ref (an 9), .ref (an 10), .ref (an 11), .int (nI td), .int z, .ref (an 12)])), (an 1, .inl (g 0, 8, .inl kd)), (an 2, .inl (g 0, 8, .inl ka)), (an 3, .inl (g 0, 8, .inl ho)), (an 4, .inl (g 0, 8, .inl fa)), (an 5, .inl (g 0, 8, .inl si)), (an 6, .inl (g 0, 8, .inl kn)), (an 7, .inl (g 0, 8, .inl aw)), (an 8, .inl (g 0, 40, .inl ev)), (an 9, .inl (g 0, 40, .inl cr)), (an 10, .inl (g 0, 40, .inl tr)), (an 11, .inl (g 0, 4, .inl lw)), (an 12, .inr (0, [.int (q 0), .int (q 1), .int (q 2), .int (q 3), .int (q 4), .int (q 5), .int (q 6), .int (q 7), .int (q 8)])), (bS, .inl (g 3, 4, .inr (.inr (.inr (.inr (fun j => some (as (2 * j)))))))), (as 0, .inr (3, [.int so0, .int (nI ln0), .ref (as 1)])), (as 1, .inl (g 2, 40, .inr (.inl it0))), (as 2, .inr (3, [.int so1, .int (nI ln1), .ref (as 3)])), (as 3, .inl (g 2, 40, .inr (.inl it1))), (as 4, .inr (3, [.int so2, .int (nI ln2), .ref (as 5)])), (as 5, .inl (g 2, 40, .inr (.inl it2))), (as 6, .inr (3, [.int so3, .int (nI ln3), .ref (as 7)])), (as 7, .inl (g 2, 40, .inr (.inl it3)))]) rfl ?_
            refine s_istore (lv' := [(6, _), (5, _), (0, _), (1, _), (2, _), (3, _), (4, _)]) B dX8_events_44 (Nat.le_of_ble_eq_true rfl) rfl ?_
            refine s_iload B dX8_events_46 0 rfl ?_
            refine s_if_ge (tgt := 54) B dX8_events_48 rfl (fun h48 => ?_) (fun h48 => ?_)
            · refine s_iload_n B dX8_events_54 rfl 4 rfl ?_
              refine s_if_lt (tgt := 79) B dX8_events_55 rfl (fun h55 => ?_) (fun h55 => ?_)
              · refine s_bipush B dX8_events_79 bp_m12 ?_
                refine s_iret B hQ hr dX8_events_81 rfl ?_
                exact ⟨ev, by clear hQ B hr hsc; have ec0 : (nI 0).toNatClampNeg = 0 := (by decide); have ec1 : (nI 1).toNatClampNeg = 1 := (by decide); have ec2 : (nI 2).toNatClampNeg = 2 := (by decide); have ec3 : (nI 3).toNatClampNeg = 3 := (by decide); grind [mEvC, mRef, v4], (gEvs_no (by first | decide | (clear hQ B hr hsc; grind))), rfl⟩
              · refine s_iload_n B dX8_events_58 rfl 4 rfl ?_
                refine s_aload B dX8_events_59 1 rfl ?_
                refine s_get (T := TX3) B inX3 19 rfl rfl 1 (Nat.le_of_ble_eq_true rfl) fl_X8_226 rfl rfl dX8_events_61 ?_
                refine s_icmp_gt (tgt := 79) B dX8_events_64 rfl (fun h64 => ?_) (fun h64 => ?_)
                · refine s_bipush B dX8_events_79 bp_m12 ?_
                  refine s_iret B hQ hr dX8_events_81 rfl ?_
                  exact ⟨ev, by clear hQ B hr hsc; have ec0 : (nI 0).toNatClampNeg = 0 := (by decide); have ec1 : (nI 1).toNatClampNeg = 1 := (by decide); have ec2 : (nI 2).toNatClampNeg = 2 := (by decide); have ec3 : (nI 3).toNatClampNeg = 3 := (by decide); grind [mEvC, mRef, v4], (gEvs_no (by first | decide | (clear hQ B hr hsc; grind))), rfl⟩
                · refine s_iload B dX8_events_67 6 rfl ?_
                  refine s_aload B dX8_events_69 1 rfl ?_
                  refine s_get (T := TX3) B inX3 19 rfl rfl 1 (Nat.le_of_ble_eq_true rfl) fl_X8_226 rfl rfl dX8_events_71 ?_
                  refine s_iload_n B dX8_events_74 rfl 4 rfl ?_
                  refine s_isub B dX8_events_75 ?_
                  refine s_icmp_le (tgt := 82) B dX8_events_76 rfl (fun h76 => ?_) (fun h76 => ?_)
                  · obtain ⟨ki, hki0, rfl⟩ := nat_le (N := ln2) (Int32.not_lt.mpr (Int32.not_lt.mp h55)) h64 (by omega)
                    have hki : km + ki ≤ ln2 := by obtain ⟨k9, h91, h92⟩ := nat_sub (a := ln2) (b := ki) (nI_pos (n := km) (by omega)) h76 (by omega) (by omega); have h93 := (nI_eq (a := km) (b := k9) (by omega) (by omega)).mp h92; omega
                    refine s_iconst B dX8_events_82 ic_0 ?_
                    have L85 : ∀ (jj85 : Nat) (k_27 : Nat) (ev_29 : Nat → Int32), 40 - k_27 < jj85 → (n ≤ 8) → (td ≤ 40) → (ln0 ≤ 40) → (ln1 ≤ 40) → (ln2 ≤ 40) → (ln3 ≤ 40) → (¬ (nI 2) < 0 ∧ (nI 2) < 4) → (2 < 4) → (¬ (nI k_7) < 0 ∧ (nI k_7) < 40) → (k_7 < 40) → (¬ (nI km) < 0) → ((nI km) ≤ (40 - (nI k_7))) → (km + k_7 ≤ 40) → (0 ≤ (mRef so2 0)) → (¬ (nI ki) < 0) → (¬ (nI ln2) < (nI ki)) → ((nI km) ≤ ((nI ln2) - (nI ki))) → (km + ki ≤ ln2) → (k_27 ≤ 40) → (k_27 ≤ km) → (ev_29 = mFd (fun j => (it2 (ki + j)).toInt32 &&& 31) ev k_7 k_27) → Sx p l e rmX8_events s m args below meth c D vwCl A 8 Q 85 [(0, .ref bo), (2, .int (nI ki)), (3, .int (nI k_7)), (4, .int (nI km)), (5, .ref (as 4)), (7, .int (nI k_27))] [] [(bo, .inr (8, [.ref (an 0), .ref (ak 0), .int ik, .ref (bT), .ref (hT), .ref (ar 0), .ref bS, .ref (bV), .ref (th 0)])), (an 0, .inr (2, [.ref (an 1), .ref (an 2), .ref (an 3), .ref (an 4), .ref (an 5), .ref (an 6), .ref (an 7), .int (nI n), .ref (an 8), .ref (an 9), .ref (an 10), .ref (an 11), .int (nI td), .int z, .ref (an 12)])), (an 1, .inl (g 0, 8, .inl kd)), (an 2, .inl (g 0, 8, .inl ka)), (an 3, .inl (g 0, 8, .inl ho)), (an 4, .inl (g 0, 8, .inl fa)), (an 5, .inl (g 0, 8, .inl si)), (an 6, .inl (g 0, 8, .inl kn)), (an 7, .inl (g 0, 8, .inl aw)), (an 8, .inl (g 0, 40, .inl ev_29)), (an 9, .inl (g 0, 40, .inl cr)), (an 10, .inl (g 0, 40, .inl tr)), (an 11, .inl (g 0, 4, .inl lw)), (an 12, .inr (0, [.int (q 0), .int (q 1), .int (q 2), .int (q 3), .int (q 4), .int (q 5), .int (q 6), .int (q 7), .int (q 8)])), (bS, .inl (g 3, 4, .inr (.inr (.inr (.inr (fun j => some (as (2 * j)))))))), (as 0, .inr (3, [.int so0, .int (nI ln0), .ref (as 1)])), (as 1, .inl (g 2, 40, .inr (.inl it0))), (as 2, .inr (3, [.int so1, .int (nI ln1), .ref (as 3)])), (as 3, .inl (g 2, 40, .inr (.inl it1))), (as 4, .inr (3, [.int so2, .int (nI ln2), .ref (as 5)])), (as 5, .inl (g 2, 40, .inr (.inl it2))), (as 6, .inr (3, [.int so3, .int (nI ln3), .ref (as 7)])), (as 7, .inl (g 2, 40, .inr (.inl it3)))] := by
                      intro jj85
                      induction jj85 with
                      | zero => intro k_27 ev_29 hj; exact absurd hj (Nat.not_lt_zero _)
                      | succ jj85 ih85 =>
                        intro k_27 ev_29 hj85 hb_n hb_td hb_ln0 hb_ln1 hb_ln2 hb_ln3 h4 hk_4 h11 hk_8 h16 h25 hkn h48 h55 h64 h76 hki h_28 hj_30 hE_31
                        refine s_iload B dX8_events_85 5 rfl ?_
                        refine s_iload B dX8_events_87 3 rfl ?_
                        refine s_icmp_ge (tgt := 124) B dX8_events_89 rfl (fun h89 => ?_) (fun h89 => ?_)
                        · replace h89 : km ≤ k_27 := (nI_leI (a := km) (b := k_27) (by omega) (by omega)).mp h89
                          refine s_iload B dX8_events_124 3 rfl ?_
                          refine s_iret B hQ hr dX8_events_126 rfl ?_
                          exact ⟨ev_29, by clear hQ B hr hsc; have ec0 : (nI 0).toNatClampNeg = 0 := (by decide); have ec1 : (nI 1).toNatClampNeg = 1 := (by decide); have ec2 : (nI 2).toNatClampNeg = 2 := (by decide); have ec3 : (nI 3).toNatClampNeg = 3 := (by decide); grind [mEvC, mRef, v4], (gEvs_ok (G := (n, kd, ka, ho, fa, si, kn, aw, ev, cr, tr, lw, td, z)) (by omega) (by omega) (by omega) (by omega) (hE_31.trans (by rw [show k_27 = km from by omega]; rfl))), rfl⟩
                        · replace h89 : ¬ km ≤ k_27 := fun hh => h89 ((nI_leI (a := km) (b := k_27) (by omega) (by omega)).mpr hh)
                          refine s_aload_n B dX8_events_92 rfl 0 rfl ?_
                          refine s_get (T := TX8) B inX8 0 rfl rfl 0 (Nat.le_of_ble_eq_true rfl) fl_X8_10 rfl rfl dX8_events_93 ?_
                          refine s_get (T := TX2) B inX2 1 rfl rfl 8 (Nat.le_of_ble_eq_true rfl) fl_X8_122 rfl rfl dX8_events_96 ?_
                          refine s_iload_n B dX8_events_99 rfl 2 rfl ?_
                          refine s_iload B dX8_events_100 5 rfl ?_
                          refine s_iaddE B dX8_events_102 (nI_add k_7 k_27) ?_
                          refine s_aload B dX8_events_103 4 rfl ?_
                          refine s_get (T := TX3) B inX3 19 rfl rfl 2 (Nat.le_of_ble_eq_true rfl) fl_X8_229 rfl rfl dX8_events_105 ?_
                          refine s_iload_n B dX8_events_108 rfl 1 rfl ?_
                          refine s_iload B dX8_events_109 5 rfl ?_
                          refine s_iaddE B dX8_events_111 (nI_add ki k_27) ?_
                          refine s_laldN B 20 2 rfl rfl dX8_events_112 (by omega) (by decide) ?_
                          refine s_l2i B dX8_events_113 rfl ?_
                          refine s_bipush B dX8_events_114 bp_31 ?_
                          refine s_iand B dX8_events_116 ?_
                          refine s_iastN (ws' := [_, _, _, _, _, _, _, _, _, _, _, _, _, _, _, _, _, _, _, _, _, _, _]) B 9 0 rfl rfl rfl dX8_events_117 (by omega) (by decide) ?_
                          refine s_iinc (lv' := [(7, _), (0, _), (2, _), (3, _), (4, _), (5, _)]) (k := 5) B dX8_events_118 rfl (ii_n _) (Nat.le_of_ble_eq_true rfl) rfl ?_
                          refine s_goto (tgt := 85) B dX8_events_121 rfl ?_
                          refine s_lv (lv' := [(0, _), (2, _), (3, _), (4, _), (5, _), (7, _)]) [1, 2, 3, 4, 5, 0] rfl ?_
                          exact ih85 (k_27 + 1) (upd ev_29 (k_7 + k_27) (((it2 (ki + k_27)).toInt32) &&& 31)) (by omega) hb_n hb_td hb_ln0 hb_ln1 hb_ln2 hb_ln3 h4 hk_4 h11 hk_8 h16 h25 hkn h48 h55 h64 h76 hki (by omega) (by omega) (mFd_u hE_31 rfl rfl)
                    refine s_istore (lv' := [(7, _), (6, _), (5, _), (0, _), (1, _), (2, _), (3, _), (4, _)]) B dX8_events_83 (Nat.le_of_ble_eq_true rfl) rfl ?_
                    refine s_lv (lv' := [(0, _), (2, _), (3, _), (4, _), (5, _), (7, _)]) [3, 5, 6, 7, 2, 0] rfl ?_
                    refine s_lve (lv' := [(0, .ref bo), (2, .int (nI ki)), (3, .int (nI k_7)), (4, .int (nI km)), (5, .ref (as 4)), (7, .int (nI 0))]) (by first | rfl | (simp only [if_pos, if_neg]; done)) ?_
                    exact L85 _ 0 ev (Nat.lt_succ_self _) hb_n hb_td hb_ln0 hb_ln1 hb_ln2 hb_ln3 h4 hk_4 h11 hk_8 h16 h25 hkn h48 h55 h64 h76 hki (by omega) (by omega) (mFd_0 _ _ _)
                  · refine s_bipush B dX8_events_79 bp_m12 ?_
                    refine s_iret B hQ hr dX8_events_81 rfl ?_
                    exact ⟨ev, by clear hQ B hr hsc; have ec0 : (nI 0).toNatClampNeg = 0 := (by decide); have ec1 : (nI 1).toNatClampNeg = 1 := (by decide); have ec2 : (nI 2).toNatClampNeg = 2 := (by decide); have ec3 : (nI 3).toNatClampNeg = 3 := (by decide); grind [mEvC, mRef, v4], (gEvs_no (by first | decide | (clear hQ B hr hsc; grind))), rfl⟩
            · refine s_iload B dX8_events_51 0 rfl ?_
              refine s_iret B hQ hr dX8_events_53 rfl ?_
              exact ⟨ev, by clear hQ B hr hsc; have ec0 : (nI 0).toNatClampNeg = 0 := (by decide); have ec1 : (nI 1).toNatClampNeg = 1 := (by decide); have ec2 : (nI 2).toNatClampNeg = 2 := (by decide); have ec3 : (nI 3).toNatClampNeg = 3 := (by decide); grind [mEvC, mRef, v4], (gEvs_no (by first | decide | (clear hQ B hr hsc; grind))), rfl⟩
          · refine s_aldqN B 14 3 rfl rfl dX8_events_35 (by omega) (by decide) rfl ?_
            refine s_astore (lv' := [(5, _), (0, _), (1, _), (2, _), (3, _), (4, _)]) B dX8_events_36 (Nat.le_of_ble_eq_true rfl) rfl ?_
            refine s_aload B dX8_events_38 0 rfl ?_
            refine s_iconst B dX8_events_40 ic_0 ?_
            refine s_callVi B hsc (c_X3_refusalAs l D g (fun i => as (6 + i)) so3 (nI ln3) it3 0) (gw_V ml_X8_223 im_yX3_refusalAs se_yX3_refusalAs ini_RX3 co_yX3_refusalAs) hd_X3_refusalAs rfl rfl ⟨(Nat.le_of_ble_eq_true rfl), (Nat.le_of_ble_eq_true rfl)⟩ [21, 22] [0, 1, 2, 3, 4] rfl rfl rfl (ci := 3) (q0 := 0) rfl rfl rfl rfl rfl (Nat.le_of_ble_eq_true rfl) dX8_events_41 (fun r_15 u_16 hpo => ?_)
            obtain ⟨rfl, rfl⟩ := hpo
            refine s_st (st' := [.int (mRef so3 0)]) rfl ?_
            refine s_ws (ws' := [(bo, .inr (8, [.ref (an 0), .ref (ak 0), .int ik, .ref (bT), .ref (hT), .ref (ar 0), .ref bS, .ref (bV), .ref (th 0)])), (an 0, .inr (2, [.ref (an 1), .ref (an 2), .ref (an 3), .ref (an 4), .ref (an 5), .ref (an 6), .ref (an 7), .int (nI n), .ref (an 8), .ref (an 9), .ref (an 10), .ref (an 11), .int (nI td), .int z, .ref (an 12)])), (an 1, .inl (g 0, 8, .inl kd)), (an 2, .inl (g 0, 8, .inl ka)), (an 3, .inl (g 0, 8, .inl ho)), (an 4, .inl (g 0, 8, .inl fa)), (an 5, .inl (g 0, 8, .inl si)), (an 6, .inl (g 0, 8, .inl kn)), (an 7, .inl (g 0, 8, .inl aw)), (an 8, .inl (g 0, 40, .inl ev)), (an 9, .inl (g 0, 40, .inl cr)), (an 10, .inl (g 0, 40, .inl tr)), (an 11, .inl (g 0, 4, .inl lw)), (an 12, .inr (0, [.int (q 0), .int (q 1), .int (q 2), .int (q 3), .int (q 4), .int (q 5), .int (q 6), .int (q 7), .int (q 8)])), (bS, .inl (g 3, 4, .inr (.inr (.inr (.inr (fun j => some (as (2 * j)))))))), (as 0, .inr (3, [.int so0, .int (nI ln0), .ref (as 1)])), (as 1, .inl (g 2, 40, .inr (.inl it0))), (as 2, .inr (3, [.int so1, .int (nI ln1), .ref (as 3)])), (as 3, .inl (g 2, 40, .inr (.inl it1))), (as 4, .inr (3, [.int so2, .int (nI ln2), .ref (as 5)])), (as 5, .inl (g 2, 40, .inr (.inl it2))), (as 6, .inr (3, [.int so3, .int (nI ln3), .ref (as 7)])), (as 7, .inl (g 2, 40, .inr (.inl it3)))]) rfl ?_
            refine s_istore (lv' := [(6, _), (5, _), (0, _), (1, _), (2, _), (3, _), (4, _)]) B dX8_events_44 (Nat.le_of_ble_eq_true rfl) rfl ?_
            refine s_iload B dX8_events_46 0 rfl ?_
            refine s_if_ge (tgt := 54) B dX8_events_48 rfl (fun h48 => ?_) (fun h48 => ?_)
            · refine s_iload_n B dX8_events_54 rfl 4 rfl ?_
              refine s_if_lt (tgt := 79) B dX8_events_55 rfl (fun h55 => ?_) (fun h55 => ?_)
              · refine s_bipush B dX8_events_79 bp_m12 ?_
                refine s_iret B hQ hr dX8_events_81 rfl ?_
                exact ⟨ev, by clear hQ B hr hsc; have ec0 : (nI 0).toNatClampNeg = 0 := (by decide); have ec1 : (nI 1).toNatClampNeg = 1 := (by decide); have ec2 : (nI 2).toNatClampNeg = 2 := (by decide); have ec3 : (nI 3).toNatClampNeg = 3 := (by decide); grind [mEvC, mRef, v4], (gEvs_no (by first | decide | (clear hQ B hr hsc; grind))), rfl⟩
              · refine s_iload_n B dX8_events_58 rfl 4 rfl ?_
                refine s_aload B dX8_events_59 1 rfl ?_
                refine s_get (T := TX3) B inX3 21 rfl rfl 1 (Nat.le_of_ble_eq_true rfl) fl_X8_226 rfl rfl dX8_events_61 ?_
                refine s_icmp_gt (tgt := 79) B dX8_events_64 rfl (fun h64 => ?_) (fun h64 => ?_)
                · refine s_bipush B dX8_events_79 bp_m12 ?_
                  refine s_iret B hQ hr dX8_events_81 rfl ?_
                  exact ⟨ev, by clear hQ B hr hsc; have ec0 : (nI 0).toNatClampNeg = 0 := (by decide); have ec1 : (nI 1).toNatClampNeg = 1 := (by decide); have ec2 : (nI 2).toNatClampNeg = 2 := (by decide); have ec3 : (nI 3).toNatClampNeg = 3 := (by decide); grind [mEvC, mRef, v4], (gEvs_no (by first | decide | (clear hQ B hr hsc; grind))), rfl⟩
                · refine s_iload B dX8_events_67 6 rfl ?_
                  refine s_aload B dX8_events_69 1 rfl ?_
                  refine s_get (T := TX3) B inX3 21 rfl rfl 1 (Nat.le_of_ble_eq_true rfl) fl_X8_226 rfl rfl dX8_events_71 ?_
                  refine s_iload_n B dX8_events_74 rfl 4 rfl ?_
                  refine s_isub B dX8_events_75 ?_
                  refine s_icmp_le (tgt := 82) B dX8_events_76 rfl (fun h76 => ?_) (fun h76 => ?_)
                  · obtain ⟨ki, hki0, rfl⟩ := nat_le (N := ln3) (Int32.not_lt.mpr (Int32.not_lt.mp h55)) h64 (by omega)
                    have hki : km + ki ≤ ln3 := by obtain ⟨k9, h91, h92⟩ := nat_sub (a := ln3) (b := ki) (nI_pos (n := km) (by omega)) h76 (by omega) (by omega); have h93 := (nI_eq (a := km) (b := k9) (by omega) (by omega)).mp h92; omega
                    refine s_iconst B dX8_events_82 ic_0 ?_
                    have L85 : ∀ (jj85 : Nat) (k_32 : Nat) (ev_34 : Nat → Int32), 40 - k_32 < jj85 → (n ≤ 8) → (td ≤ 40) → (ln0 ≤ 40) → (ln1 ≤ 40) → (ln2 ≤ 40) → (ln3 ≤ 40) → (¬ (nI 3) < 0 ∧ (nI 3) < 4) → (3 < 4) → (¬ (nI k_7) < 0 ∧ (nI k_7) < 40) → (k_7 < 40) → (¬ (nI km) < 0) → ((nI km) ≤ (40 - (nI k_7))) → (km + k_7 ≤ 40) → (0 ≤ (mRef so3 0)) → (¬ (nI ki) < 0) → (¬ (nI ln3) < (nI ki)) → ((nI km) ≤ ((nI ln3) - (nI ki))) → (km + ki ≤ ln3) → (k_32 ≤ 40) → (k_32 ≤ km) → (ev_34 = mFd (fun j => (it3 (ki + j)).toInt32 &&& 31) ev k_7 k_32) → Sx p l e rmX8_events s m args below meth c D vwCl A 8 Q 85 [(0, .ref bo), (2, .int (nI ki)), (3, .int (nI k_7)), (4, .int (nI km)), (5, .ref (as 6)), (7, .int (nI k_32))] [] [(bo, .inr (8, [.ref (an 0), .ref (ak 0), .int ik, .ref (bT), .ref (hT), .ref (ar 0), .ref bS, .ref (bV), .ref (th 0)])), (an 0, .inr (2, [.ref (an 1), .ref (an 2), .ref (an 3), .ref (an 4), .ref (an 5), .ref (an 6), .ref (an 7), .int (nI n), .ref (an 8), .ref (an 9), .ref (an 10), .ref (an 11), .int (nI td), .int z, .ref (an 12)])), (an 1, .inl (g 0, 8, .inl kd)), (an 2, .inl (g 0, 8, .inl ka)), (an 3, .inl (g 0, 8, .inl ho)), (an 4, .inl (g 0, 8, .inl fa)), (an 5, .inl (g 0, 8, .inl si)), (an 6, .inl (g 0, 8, .inl kn)), (an 7, .inl (g 0, 8, .inl aw)), (an 8, .inl (g 0, 40, .inl ev_34)), (an 9, .inl (g 0, 40, .inl cr)), (an 10, .inl (g 0, 40, .inl tr)), (an 11, .inl (g 0, 4, .inl lw)), (an 12, .inr (0, [.int (q 0), .int (q 1), .int (q 2), .int (q 3), .int (q 4), .int (q 5), .int (q 6), .int (q 7), .int (q 8)])), (bS, .inl (g 3, 4, .inr (.inr (.inr (.inr (fun j => some (as (2 * j)))))))), (as 0, .inr (3, [.int so0, .int (nI ln0), .ref (as 1)])), (as 1, .inl (g 2, 40, .inr (.inl it0))), (as 2, .inr (3, [.int so1, .int (nI ln1), .ref (as 3)])), (as 3, .inl (g 2, 40, .inr (.inl it1))), (as 4, .inr (3, [.int so2, .int (nI ln2), .ref (as 5)])), (as 5, .inl (g 2, 40, .inr (.inl it2))), (as 6, .inr (3, [.int so3, .int (nI ln3), .ref (as 7)])), (as 7, .inl (g 2, 40, .inr (.inl it3)))] := by
                      intro jj85
                      induction jj85 with
                      | zero => intro k_32 ev_34 hj; exact absurd hj (Nat.not_lt_zero _)
                      | succ jj85 ih85 =>
                        intro k_32 ev_34 hj85 hb_n hb_td hb_ln0 hb_ln1 hb_ln2 hb_ln3 h4 hk_4 h11 hk_8 h16 h25 hkn h48 h55 h64 h76 hki h_33 hj_35 hE_36
                        refine s_iload B dX8_events_85 5 rfl ?_
                        refine s_iload B dX8_events_87 3 rfl ?_
                        refine s_icmp_ge (tgt := 124) B dX8_events_89 rfl (fun h89 => ?_) (fun h89 => ?_)
                        · replace h89 : km ≤ k_32 := (nI_leI (a := km) (b := k_32) (by omega) (by omega)).mp h89
                          refine s_iload B dX8_events_124 3 rfl ?_
                          refine s_iret B hQ hr dX8_events_126 rfl ?_
                          exact ⟨ev_34, by clear hQ B hr hsc; have ec0 : (nI 0).toNatClampNeg = 0 := (by decide); have ec1 : (nI 1).toNatClampNeg = 1 := (by decide); have ec2 : (nI 2).toNatClampNeg = 2 := (by decide); have ec3 : (nI 3).toNatClampNeg = 3 := (by decide); grind [mEvC, mRef, v4], (gEvs_ok (G := (n, kd, ka, ho, fa, si, kn, aw, ev, cr, tr, lw, td, z)) (by omega) (by omega) (by omega) (by omega) (hE_36.trans (by rw [show k_32 = km from by omega]; rfl))), rfl⟩
                        · replace h89 : ¬ km ≤ k_32 := fun hh => h89 ((nI_leI (a := km) (b := k_32) (by omega) (by omega)).mpr hh)
                          refine s_aload_n B dX8_events_92 rfl 0 rfl ?_
                          refine s_get (T := TX8) B inX8 0 rfl rfl 0 (Nat.le_of_ble_eq_true rfl) fl_X8_10 rfl rfl dX8_events_93 ?_
                          refine s_get (T := TX2) B inX2 1 rfl rfl 8 (Nat.le_of_ble_eq_true rfl) fl_X8_122 rfl rfl dX8_events_96 ?_
                          refine s_iload_n B dX8_events_99 rfl 2 rfl ?_
                          refine s_iload B dX8_events_100 5 rfl ?_
                          refine s_iaddE B dX8_events_102 (nI_add k_7 k_32) ?_
                          refine s_aload B dX8_events_103 4 rfl ?_
                          refine s_get (T := TX3) B inX3 21 rfl rfl 2 (Nat.le_of_ble_eq_true rfl) fl_X8_229 rfl rfl dX8_events_105 ?_
                          refine s_iload_n B dX8_events_108 rfl 1 rfl ?_
                          refine s_iload B dX8_events_109 5 rfl ?_
                          refine s_iaddE B dX8_events_111 (nI_add ki k_32) ?_
                          refine s_laldN B 22 2 rfl rfl dX8_events_112 (by omega) (by decide) ?_
                          refine s_l2i B dX8_events_113 rfl ?_
                          refine s_bipush B dX8_events_114 bp_31 ?_
                          refine s_iand B dX8_events_116 ?_
                          refine s_iastN (ws' := [_, _, _, _, _, _, _, _, _, _, _, _, _, _, _, _, _, _, _, _, _, _, _]) B 9 0 rfl rfl rfl dX8_events_117 (by omega) (by decide) ?_
                          refine s_iinc (lv' := [(7, _), (0, _), (2, _), (3, _), (4, _), (5, _)]) (k := 5) B dX8_events_118 rfl (ii_n _) (Nat.le_of_ble_eq_true rfl) rfl ?_
                          refine s_goto (tgt := 85) B dX8_events_121 rfl ?_
                          refine s_lv (lv' := [(0, _), (2, _), (3, _), (4, _), (5, _), (7, _)]) [1, 2, 3, 4, 5, 0] rfl ?_
                          exact ih85 (k_32 + 1) (upd ev_34 (k_7 + k_32) (((it3 (ki + k_32)).toInt32) &&& 31)) (by omega) hb_n hb_td hb_ln0 hb_ln1 hb_ln2 hb_ln3 h4 hk_4 h11 hk_8 h16 h25 hkn h48 h55 h64 h76 hki (by omega) (by omega) (mFd_u hE_36 rfl rfl)
                    refine s_istore (lv' := [(7, _), (6, _), (5, _), (0, _), (1, _), (2, _), (3, _), (4, _)]) B dX8_events_83 (Nat.le_of_ble_eq_true rfl) rfl ?_
                    refine s_lv (lv' := [(0, _), (2, _), (3, _), (4, _), (5, _), (7, _)]) [3, 5, 6, 7, 2, 0] rfl ?_
                    refine s_lve (lv' := [(0, .ref bo), (2, .int (nI ki)), (3, .int (nI k_7)), (4, .int (nI km)), (5, .ref (as 6)), (7, .int (nI 0))]) (by first | rfl | (simp only [if_pos, if_neg]; done)) ?_
                    exact L85 _ 0 ev (Nat.lt_succ_self _) hb_n hb_td hb_ln0 hb_ln1 hb_ln2 hb_ln3 h4 hk_4 h11 hk_8 h16 h25 hkn h48 h55 h64 h76 hki (by omega) (by omega) (mFd_0 _ _ _)
                  · refine s_bipush B dX8_events_79 bp_m12 ?_
                    refine s_iret B hQ hr dX8_events_81 rfl ?_
                    exact ⟨ev, by clear hQ B hr hsc; have ec0 : (nI 0).toNatClampNeg = 0 := (by decide); have ec1 : (nI 1).toNatClampNeg = 1 := (by decide); have ec2 : (nI 2).toNatClampNeg = 2 := (by decide); have ec3 : (nI 3).toNatClampNeg = 3 := (by decide); grind [mEvC, mRef, v4], (gEvs_no (by first | decide | (clear hQ B hr hsc; grind))), rfl⟩
            · refine s_iload B dX8_events_51 0 rfl ?_
              refine s_iret B hQ hr dX8_events_53 rfl ?_
              exact ⟨ev, by clear hQ B hr hsc; have ec0 : (nI 0).toNatClampNeg = 0 := (by decide); have ec1 : (nI 1).toNatClampNeg = 1 := (by decide); have ec2 : (nI 2).toNatClampNeg = 2 := (by decide); have ec3 : (nI 3).toNatClampNeg = 3 := (by decide); grind [mEvC, mRef, v4], (gEvs_no (by first | decide | (clear hQ B hr hsc; grind))), rfl⟩
        · refine s_iconst B dX8_events_28 ic_m1 ?_
          refine s_iret B hQ hr dX8_events_29 rfl ?_
          exact ⟨ev, by clear hQ B hr hsc; have ec0 : (nI 0).toNatClampNeg = 0 := (by decide); have ec1 : (nI 1).toNatClampNeg = 1 := (by decide); have ec2 : (nI 2).toNatClampNeg = 2 := (by decide); have ec3 : (nI 3).toNatClampNeg = 3 := (by decide); grind [mEvC, mRef, v4], (gEvs_no (by first | decide | (clear hQ B hr hsc; grind))), rfl⟩
section SHA
variable {s w m : Int32} {n : Nat}
theorem shA_no (h : ¬ (¬ s < 0 ∧ s < 4) ∨ w < 0 ∨ ¬ w ≤ 2) : -1 = mShC s w m n := by
  unfold mShC
  rw [if_pos]
  rcases h with h | h | h
  · by_cases q : s < 0
    · exact Or.inl (Or.inl q)
    · exact Or.inl (Or.inr (fun w => h ⟨q, w⟩))
  · exact Or.inr (Or.inl h)
  · exact Or.inr (Or.inr (Int32.not_le.mp h))
theorem shA_0n (h0 : w = 0) (hm : ¬ (¬ m < 0 ∧ m < nI n)) : -1 = mShC s w m n := by
  unfold mShC
  split
  · rfl
  · rw [if_pos (Or.inl ⟨h0, hm⟩)]
theorem shA_1n (h1 : w = 1) (hm : ¬ (¬ m < 0 ∧ m < 4)) : -1 = mShC s w m n := by
  unfold mShC
  split
  · rfl
  · rw [if_pos (Or.inr ⟨h1, hm⟩)]
theorem shA_0y (hs : ¬ s < 0 ∧ s < 4) (h0 : w = 0) (hm : ¬ m < 0 ∧ m < nI n) : 1 = mShC s w m n := by
  subst h0
  unfold mShC
  rw [if_neg (fun q => q.elim (fun q => q.elim hs.1 (fun z => z hs.2)) (fun q => q.elim (by decide) (by decide))), if_neg (fun q => q.elim (fun z => z.2 hm) (fun z => absurd z.1 (by decide)))]
theorem shA_1y (hs : ¬ s < 0 ∧ s < 4) (h1 : w = 1) (hm : ¬ m < 0 ∧ m < 4) : 1 = mShC s w m n := by
  subst h1
  unfold mShC
  rw [if_neg (fun q => q.elim (fun q => q.elim hs.1 (fun z => z hs.2)) (fun q => q.elim (by decide) (by decide))), if_neg (fun q => q.elim (fun z => absurd z.1 (by decide)) (fun z => z.2 hm))]
theorem shA_2y (hs : ¬ s < 0 ∧ s < 4) (hw : ¬ w < 0) (hw2 : w ≤ 2) (n0 : ¬ w = 0) (n1 : ¬ w = 1) : 1 = mShC s w m n := by
  unfold mShC
  rw [if_neg (fun q => q.elim (fun q => q.elim hs.1 (fun z => z hs.2)) (fun q => q.elim hw (fun z => absurd z (Int32.not_lt.mpr hw2)))), if_neg (fun q => q.elim (fun z => n0 z.1) (fun z => n1 z.1))]
end SHA
def rmX8_shelf : Room := { frames := 1, cells := 0, slots := 0, locals := 22 }
theorem hd_X8_shelf : yX8_shelf.cls = RX8 ∧ yX8_shelf.cls ≠ "java/lang/invoke/MethodHandle" ∧ yX8_shelf.cls ≠ "java/lang/invoke/VarHandle" ∧ (parseMethodDescriptor yX8_shelf.desc).map (fun d => d.parameters.length) = some 3 := by decide +kernel
set_option maxHeartbeats 4000000 in
set_option maxRecDepth 100000 in
theorem c_X8_shelf (l : Launch) (D : va_G) (g : Nat → ClassId) (bo : Nat) (an : Nat → Nat) (ak : Nat → Nat) (bT : Nat) (hT : Nat) (ar : Nat → Nat) (bS : Nat) (bV : Nat) (th : Nat → Nat) (as : Nat → Nat) (av : Nat → Nat) (ik : Int32) (n : Nat) (td : Nat) (z : Int32) (kd : Nat → Int32) (ka : Nat → Int32) (ho : Nat → Int32) (fa : Nat → Int32) (si : Nat → Int32) (kn : Nat → Int32) (aw : Nat → Int32) (ev : Nat → Int32) (cr : Nat → Int32) (tr : Nat → Int32) (lw : Nat → Int32) (q : Nat → Int32) (so0 : Int32) (ln0 : Nat) (it0 : Nat → Int64) (so1 : Int32) (ln1 : Nat) (it1 : Nat → Int64) (so2 : Int32) (ln2 : Nat) (it2 : Nat → Int64) (so3 : Int32) (ln3 : Nat) (it3 : Nat → Int64) (hs0 : Int32) (nu0 : Int32) (ss0 : Int32) (hs1 : Int32) (nu1 : Int32) (ss1 : Int32) (hs2 : Int32) (nu2 : Int32) (ss2 : Int32) (hs3 : Int32) (nu3 : Int32) (ss3 : Int32) (s0 : Int32) (w0 : Int32) (n0 : Int32)  (hb_n : n ≤ 8) (hb_td : td ≤ 40) (hb_ln0 : ln0 ≤ 40) (hb_ln1 : ln1 ≤ 40) (hb_ln2 : ln2 ≤ 40) (hb_ln3 : ln3 ≤ 40) : Ci l yX8_shelf (WW yX8_shelf cX8_shelf 5 (some FieldType.int)) rmX8_shelf D vwCl (TY g) [.ref bo, .int s0, .int w0, .int n0] [(bo, .inr (8, [.ref (an 0), .ref (ak 0), .int ik, .ref (bT), .ref (hT), .ref (ar 0), .ref bS, .ref bV, .ref (th 0)])), (an 0, .inr (2, [.ref (an 1), .ref (an 2), .ref (an 3), .ref (an 4), .ref (an 5), .ref (an 6), .ref (an 7), .int (nI n), .ref (an 8), .ref (an 9), .ref (an 10), .ref (an 11), .int (nI td), .int z, .ref (an 12)])), (an 1, .inl (g 0, 8, .inl kd)), (an 2, .inl (g 0, 8, .inl ka)), (an 3, .inl (g 0, 8, .inl ho)), (an 4, .inl (g 0, 8, .inl fa)), (an 5, .inl (g 0, 8, .inl si)), (an 6, .inl (g 0, 8, .inl kn)), (an 7, .inl (g 0, 8, .inl aw)), (an 8, .inl (g 0, 40, .inl ev)), (an 9, .inl (g 0, 40, .inl cr)), (an 10, .inl (g 0, 40, .inl tr)), (an 11, .inl (g 0, 4, .inl lw)), (an 12, .inr (0, [.int (q 0), .int (q 1), .int (q 2), .int (q 3), .int (q 4), .int (q 5), .int (q 6), .int (q 7), .int (q 8)])), (bS, .inl (g 3, 4, .inr (.inr (.inr (.inr (fun j => some (as (2 * j)))))))), (as 0, .inr (3, [.int so0, .int (nI ln0), .ref (as 1)])), (as 1, .inl (g 2, 40, .inr (.inl it0))), (as 2, .inr (3, [.int so1, .int (nI ln1), .ref (as 3)])), (as 3, .inl (g 2, 40, .inr (.inl it1))), (as 4, .inr (3, [.int so2, .int (nI ln2), .ref (as 5)])), (as 5, .inl (g 2, 40, .inr (.inl it2))), (as 6, .inr (3, [.int so3, .int (nI ln3), .ref (as 7)])), (as 7, .inl (g 2, 40, .inr (.inl it3))), (bV, .inl (g 4, 4, .inr (.inr (.inr (.inr (fun j => some (av j))))))), (av 0, .inr (4, [.int hs0, .int nu0, .int ss0])), (av 1, .inr (4, [.int hs1, .int nu1, .int ss1])), (av 2, .inr (4, [.int hs2, .int nu2, .int ss2])), (av 3, .inr (4, [.int hs3, .int nu3, .int ss3]))] (fun r u => ∃ (hs0' : Int32) (nu0' : Int32) (ss0' : Int32) (hs1' : Int32) (nu1' : Int32) (ss1' : Int32) (hs2' : Int32) (nu2' : Int32) (ss2' : Int32) (hs3' : Int32) (nu3' : Int32) (ss3' : Int32), (r = mShC s0 w0 n0 n) ∧ (hs0' = mHo r s0 w0 n0 (v4 so0 so1 so2 so3) 0 hs0) ∧ (nu0' = mNu r s0 w0 n0 (v4 so0 so1 so2 so3) (v4 (nI ln0) (nI ln1) (nI ln2) (nI ln3)) 0 nu0) ∧ (ss0' = mSs r s0 w0 n0 (v4 so0 so1 so2 so3) 0 ss0) ∧ (hs1' = mHo r s0 w0 n0 (v4 so0 so1 so2 so3) 1 hs1) ∧ (nu1' = mNu r s0 w0 n0 (v4 so0 so1 so2 so3) (v4 (nI ln0) (nI ln1) (nI ln2) (nI ln3)) 1 nu1) ∧ (ss1' = mSs r s0 w0 n0 (v4 so0 so1 so2 so3) 1 ss1) ∧ (hs2' = mHo r s0 w0 n0 (v4 so0 so1 so2 so3) 2 hs2) ∧ (nu2' = mNu r s0 w0 n0 (v4 so0 so1 so2 so3) (v4 (nI ln0) (nI ln1) (nI ln2) (nI ln3)) 2 nu2) ∧ (ss2' = mSs r s0 w0 n0 (v4 so0 so1 so2 so3) 2 ss2) ∧ (hs3' = mHo r s0 w0 n0 (v4 so0 so1 so2 so3) 3 hs3) ∧ (nu3' = mNu r s0 w0 n0 (v4 so0 so1 so2 so3) (v4 (nI ln0) (nI ln1) (nI ln2) (nI ln3)) 3 nu3) ∧ (ss3' = mSs r s0 w0 n0 (v4 so0 so1 so2 so3) 3 ss3) ∧ u = [(bo, .inr (8, [.ref (an 0), .ref (ak 0), .int ik, .ref (bT), .ref (hT), .ref (ar 0), .ref bS, .ref bV, .ref (th 0)])), (an 0, .inr (2, [.ref (an 1), .ref (an 2), .ref (an 3), .ref (an 4), .ref (an 5), .ref (an 6), .ref (an 7), .int (nI n), .ref (an 8), .ref (an 9), .ref (an 10), .ref (an 11), .int (nI td), .int z, .ref (an 12)])), (an 1, .inl (g 0, 8, .inl kd)), (an 2, .inl (g 0, 8, .inl ka)), (an 3, .inl (g 0, 8, .inl ho)), (an 4, .inl (g 0, 8, .inl fa)), (an 5, .inl (g 0, 8, .inl si)), (an 6, .inl (g 0, 8, .inl kn)), (an 7, .inl (g 0, 8, .inl aw)), (an 8, .inl (g 0, 40, .inl ev)), (an 9, .inl (g 0, 40, .inl cr)), (an 10, .inl (g 0, 40, .inl tr)), (an 11, .inl (g 0, 4, .inl lw)), (an 12, .inr (0, [.int (q 0), .int (q 1), .int (q 2), .int (q 3), .int (q 4), .int (q 5), .int (q 6), .int (q 7), .int (q 8)])), (bS, .inl (g 3, 4, .inr (.inr (.inr (.inr (fun j => some (as (2 * j)))))))), (as 0, .inr (3, [.int so0, .int (nI ln0), .ref (as 1)])), (as 1, .inl (g 2, 40, .inr (.inl it0))), (as 2, .inr (3, [.int so1, .int (nI ln1), .ref (as 3)])), (as 3, .inl (g 2, 40, .inr (.inl it1))), (as 4, .inr (3, [.int so2, .int (nI ln2), .ref (as 5)])), (as 5, .inl (g 2, 40, .inr (.inl it2))), (as 6, .inr (3, [.int so3, .int (nI ln3), .ref (as 7)])), (as 7, .inl (g 2, 40, .inr (.inl it3))), (bV, .inl (g 4, 4, .inr (.inr (.inr (.inr (fun j => some (av j))))))), (av 0, .inr (4, [.int hs0', .int nu0', .int ss0'])), (av 1, .inr (4, [.int hs1', .int nu1', .int ss1'])), (av 2, .inr (4, [.int hs2', .int nu2', .int ss2'])), (av 3, .inr (4, [.int hs3', .int nu3', .int ss3']))]) := by
  refine ci_in (by decide) (Nat.le_of_ble_eq_true rfl) (a0 := [bo, an 0, an 1, an 2, an 3, an 4, an 5, an 6, an 7, an 8, an 9, an 10, an 11, an 12, bS, as 0, as 1, as 2, as 3, as 4, as 5, as 6, as 7, bV, av 0, av 1, av 2, av 3]) rfl (fun p e s m args below meth c A Q hQ B hr hsc => ?_)
  refine s_iload_n B dX8_shelf_0 rfl 1 rfl ?_
  refine s_callSi B hsc (c_X8_isShelf l D g s0) (gw_S ml_X8_250 sm_yX8_isShelf ini_RX8 co_yX8_isShelf) hd_X8_isShelf rfl rfl ⟨(Nat.le_of_ble_eq_true rfl), (Nat.le_of_ble_eq_true rfl)⟩ [] [0, 1, 2, 3, 4] rfl rfl rfl rfl rfl (Nat.le_of_ble_eq_true rfl) dX8_shelf_1 (fun r_1 u_2 hpo => ?_)
  obtain ⟨rfl, rfl⟩ := hpo
  refine s_st (st' := [.int (if ¬ s0 < 0 ∧ s0 < 4 then 1 else 0)]) rfl ?_
  refine s_ws (ws' := [(bo, .inr (8, [.ref (an 0), .ref (ak 0), .int ik, .ref (bT), .ref (hT), .ref (ar 0), .ref bS, .ref bV, .ref (th 0)])), (an 0, .inr (2, [.ref (an 1), .ref (an 2), .ref (an 3), .ref (an 4), .ref (an 5), .ref (an 6), .ref (an 7), .int (nI n), .ref (an 8), .ref (an 9), .ref (an 10), .ref (an 11), .int (nI td), .int z, .ref (an 12)])), (an 1, .inl (g 0, 8, .inl kd)), (an 2, .inl (g 0, 8, .inl ka)), (an 3, .inl (g 0, 8, .inl ho)), (an 4, .inl (g 0, 8, .inl fa)), (an 5, .inl (g 0, 8, .inl si)), (an 6, .inl (g 0, 8, .inl kn)), (an 7, .inl (g 0, 8, .inl aw)), (an 8, .inl (g 0, 40, .inl ev)), (an 9, .inl (g 0, 40, .inl cr)), (an 10, .inl (g 0, 40, .inl tr)), (an 11, .inl (g 0, 4, .inl lw)), (an 12, .inr (0, [.int (q 0), .int (q 1), .int (q 2), .int (q 3), .int (q 4), .int (q 5), .int (q 6), .int (q 7), .int (q 8)])), (bS, .inl (g 3, 4, .inr (.inr (.inr (.inr (fun j => some (as (2 * j)))))))), (as 0, .inr (3, [.int so0, .int (nI ln0), .ref (as 1)])), (as 1, .inl (g 2, 40, .inr (.inl it0))), (as 2, .inr (3, [.int so1, .int (nI ln1), .ref (as 3)])), (as 3, .inl (g 2, 40, .inr (.inl it1))), (as 4, .inr (3, [.int so2, .int (nI ln2), .ref (as 5)])), (as 5, .inl (g 2, 40, .inr (.inl it2))), (as 6, .inr (3, [.int so3, .int (nI ln3), .ref (as 7)])), (as 7, .inl (g 2, 40, .inr (.inl it3))), (bV, .inl (g 4, 4, .inr (.inr (.inr (.inr (fun j => some (av j))))))), (av 0, .inr (4, [.int hs0, .int nu0, .int ss0])), (av 1, .inr (4, [.int hs1, .int nu1, .int ss1])), (av 2, .inr (4, [.int hs2, .int nu2, .int ss2])), (av 3, .inr (4, [.int hs3, .int nu3, .int ss3]))]) rfl ?_
  refine s_bif_eq (tgt := 16) B dX8_shelf_4 rfl (fun h4 => ?_) (fun h4 => ?_)
  · refine s_iconst B dX8_shelf_16 ic_m1 ?_
    refine s_iret B hQ hr dX8_shelf_17 rfl ?_
    exact ⟨hs0, nu0, ss0, hs1, nu1, ss1, hs2, nu2, ss2, hs3, nu3, ss3, (shA_no (by first | exact Or.inl (by assumption) | exact Or.inr (Or.inl (by assumption)) | exact Or.inr (Or.inr (by assumption)))), (mHo_no (by decide)), (mNu_no (by decide)), (mSs_no (by decide)), (mHo_no (by decide)), (mNu_no (by decide)), (mSs_no (by decide)), (mHo_no (by decide)), (mNu_no (by decide)), (mSs_no (by decide)), (mHo_no (by decide)), (mNu_no (by decide)), (mSs_no (by decide)), rfl⟩
  · obtain ⟨k_3, hk_4, rfl⟩ := nat_lt2 (N := 4) h4.1 h4.2 (by omega)
    refine s_iload_n B dX8_shelf_7 rfl 2 rfl ?_
    refine s_if_lt (tgt := 16) B dX8_shelf_8 rfl (fun h8 => ?_) (fun h8 => ?_)
    · refine s_iconst B dX8_shelf_16 ic_m1 ?_
      refine s_iret B hQ hr dX8_shelf_17 rfl ?_
      exact ⟨hs0, nu0, ss0, hs1, nu1, ss1, hs2, nu2, ss2, hs3, nu3, ss3, (shA_no (by first | exact Or.inl (by assumption) | exact Or.inr (Or.inl (by assumption)) | exact Or.inr (Or.inr (by assumption)))), (mHo_no (by decide)), (mNu_no (by decide)), (mSs_no (by decide)), (mHo_no (by decide)), (mNu_no (by decide)), (mSs_no (by decide)), (mHo_no (by decide)), (mNu_no (by decide)), (mSs_no (by decide)), (mHo_no (by decide)), (mNu_no (by decide)), (mSs_no (by decide)), rfl⟩
    · refine s_iload_n B dX8_shelf_11 rfl 2 rfl ?_
      refine s_iconst B dX8_shelf_12 ic_2 ?_
      refine s_icmp_le (tgt := 18) B dX8_shelf_13 rfl (fun h13 => ?_) (fun h13 => ?_)
      · refine s_iload_n B dX8_shelf_18 rfl 2 rfl ?_
        refine s_if_ne (tgt := 33) B dX8_shelf_19 rfl (fun h19 => ?_) (fun h19 => ?_)
        · refine s_iload_n B dX8_shelf_33 rfl 2 rfl ?_
          refine s_iconst B dX8_shelf_34 ic_1 ?_
          refine s_icmp_ne (tgt := 47) B dX8_shelf_35 rfl (fun h35 => ?_) (fun h35 => ?_)
          · refine s_aload_n B dX8_shelf_47 rfl 0 rfl ?_
            refine s_get (T := TX8) B inX8 0 rfl rfl 7 (Nat.le_of_ble_eq_true rfl) fl_X8_52 rfl rfl dX8_shelf_48 ?_
            refine s_iload_n B dX8_shelf_51 rfl 1 rfl ?_
            rcases (show k_3 = 0 ∨ k_3 = 1 ∨ k_3 = 2 ∨ k_3 = 3 from by omega) with rfl | rfl | rfl | rfl
            · refine s_aldqN B 23 4 rfl rfl dX8_shelf_52 (by omega) (by decide) rfl ?_
              refine s_astore (lv' := [(4, _), (0, _), (1, _), (2, _), (3, _)]) B dX8_shelf_53 (Nat.le_of_ble_eq_true rfl) rfl ?_
              refine s_iload_n B dX8_shelf_55 rfl 3 rfl ?_
              refine s_if_ne (tgt := 68) B dX8_shelf_56 rfl (fun h56 => ?_) (fun h56 => ?_)
              · refine s_iload_n B dX8_shelf_68 rfl 3 rfl ?_
                refine s_iconst B dX8_shelf_69 ic_1 ?_
                refine s_icmp_ne (tgt := 112) B dX8_shelf_70 rfl (fun h70 => ?_) (fun h70 => ?_)
                · refine s_aload B dX8_shelf_112 0 rfl ?_
                  refine s_iconst B dX8_shelf_114 ic_2 ?_
                  refine s_put (T := TX4) (ws' := [_, _, _, _, _, _, _, _, _, _, _, _, _, _, _, _, _, _, _, _, _, _, _, _, _, _, _, _]) B inX4 tyX4_ok nmX4 24 rfl rfl 0 (Nat.le_of_ble_eq_true rfl) fl_X8_260 rfl rfl rfl rfl (Nat.le_of_ble_eq_true rfl) rfl dX8_shelf_115 ?_
                  refine s_iconst B dX8_shelf_118 ic_1 ?_
                  refine s_iret B hQ hr dX8_shelf_119 rfl ?_
                  exact ⟨2, nu0, ss0, hs1, nu1, ss1, hs2, nu2, ss2, hs3, nu3, ss3, (shA_2y h4 h8 h13 h19 h35), (mHo_2 h19 (fun q => absurd q h35)), (mNu_2 h19 (fun q => absurd q h35)), (mSs_2 (fun q => absurd q h35)), (mHo_ne (by decide)), (mNu_ne (by decide)), (mSs_ne (by decide)), (mHo_ne (by decide)), (mNu_ne (by decide)), (mSs_ne (by decide)), (mHo_ne (by decide)), (mNu_ne (by decide)), (mSs_ne (by decide)), rfl⟩
                · exact absurd h70 h35
              · exact absurd h56 h19
            · refine s_aldqN B 23 4 rfl rfl dX8_shelf_52 (by omega) (by decide) rfl ?_
              refine s_astore (lv' := [(4, _), (0, _), (1, _), (2, _), (3, _)]) B dX8_shelf_53 (Nat.le_of_ble_eq_true rfl) rfl ?_
              refine s_iload_n B dX8_shelf_55 rfl 3 rfl ?_
              refine s_if_ne (tgt := 68) B dX8_shelf_56 rfl (fun h56 => ?_) (fun h56 => ?_)
              · refine s_iload_n B dX8_shelf_68 rfl 3 rfl ?_
                refine s_iconst B dX8_shelf_69 ic_1 ?_
                refine s_icmp_ne (tgt := 112) B dX8_shelf_70 rfl (fun h70 => ?_) (fun h70 => ?_)
                · refine s_aload B dX8_shelf_112 0 rfl ?_
                  refine s_iconst B dX8_shelf_114 ic_2 ?_
                  refine s_put (T := TX4) (ws' := [_, _, _, _, _, _, _, _, _, _, _, _, _, _, _, _, _, _, _, _, _, _, _, _, _, _, _, _]) B inX4 tyX4_ok nmX4 25 rfl rfl 0 (Nat.le_of_ble_eq_true rfl) fl_X8_260 rfl rfl rfl rfl (Nat.le_of_ble_eq_true rfl) rfl dX8_shelf_115 ?_
                  refine s_iconst B dX8_shelf_118 ic_1 ?_
                  refine s_iret B hQ hr dX8_shelf_119 rfl ?_
                  exact ⟨hs0, nu0, ss0, 2, nu1, ss1, hs2, nu2, ss2, hs3, nu3, ss3, (shA_2y h4 h8 h13 h19 h35), (mHo_ne (by decide)), (mNu_ne (by decide)), (mSs_ne (by decide)), (mHo_2 h19 (fun q => absurd q h35)), (mNu_2 h19 (fun q => absurd q h35)), (mSs_2 (fun q => absurd q h35)), (mHo_ne (by decide)), (mNu_ne (by decide)), (mSs_ne (by decide)), (mHo_ne (by decide)), (mNu_ne (by decide)), (mSs_ne (by decide)), rfl⟩
                · exact absurd h70 h35
              · exact absurd h56 h19
            · refine s_aldqN B 23 4 rfl rfl dX8_shelf_52 (by omega) (by decide) rfl ?_
              refine s_astore (lv' := [(4, _), (0, _), (1, _), (2, _), (3, _)]) B dX8_shelf_53 (Nat.le_of_ble_eq_true rfl) rfl ?_
              refine s_iload_n B dX8_shelf_55 rfl 3 rfl ?_
              refine s_if_ne (tgt := 68) B dX8_shelf_56 rfl (fun h56 => ?_) (fun h56 => ?_)
              · refine s_iload_n B dX8_shelf_68 rfl 3 rfl ?_
                refine s_iconst B dX8_shelf_69 ic_1 ?_
                refine s_icmp_ne (tgt := 112) B dX8_shelf_70 rfl (fun h70 => ?_) (fun h70 => ?_)
                · refine s_aload B dX8_shelf_112 0 rfl ?_
                  refine s_iconst B dX8_shelf_114 ic_2 ?_
                  refine s_put (T := TX4) (ws' := [_, _, _, _, _, _, _, _, _, _, _, _, _, _, _, _, _, _, _, _, _, _, _, _, _, _, _, _]) B inX4 tyX4_ok nmX4 26 rfl rfl 0 (Nat.le_of_ble_eq_true rfl) fl_X8_260 rfl rfl rfl rfl (Nat.le_of_ble_eq_true rfl) rfl dX8_shelf_115 ?_
                  refine s_iconst B dX8_shelf_118 ic_1 ?_
                  refine s_iret B hQ hr dX8_shelf_119 rfl ?_
                  exact ⟨hs0, nu0, ss0, hs1, nu1, ss1, 2, nu2, ss2, hs3, nu3, ss3, (shA_2y h4 h8 h13 h19 h35), (mHo_ne (by decide)), (mNu_ne (by decide)), (mSs_ne (by decide)), (mHo_ne (by decide)), (mNu_ne (by decide)), (mSs_ne (by decide)), (mHo_2 h19 (fun q => absurd q h35)), (mNu_2 h19 (fun q => absurd q h35)), (mSs_2 (fun q => absurd q h35)), (mHo_ne (by decide)), (mNu_ne (by decide)), (mSs_ne (by decide)), rfl⟩
                · exact absurd h70 h35
              · exact absurd h56 h19
            · refine s_aldqN B 23 4 rfl rfl dX8_shelf_52 (by omega) (by decide) rfl ?_
              refine s_astore (lv' := [(4, _), (0, _), (1, _), (2, _), (3, _)]) B dX8_shelf_53 (Nat.le_of_ble_eq_true rfl) rfl ?_
              refine s_iload_n B dX8_shelf_55 rfl 3 rfl ?_
              refine s_if_ne (tgt := 68) B dX8_shelf_56 rfl (fun h56 => ?_) (fun h56 => ?_)
              · refine s_iload_n B dX8_shelf_68 rfl 3 rfl ?_
                refine s_iconst B dX8_shelf_69 ic_1 ?_
                refine s_icmp_ne (tgt := 112) B dX8_shelf_70 rfl (fun h70 => ?_) (fun h70 => ?_)
                · refine s_aload B dX8_shelf_112 0 rfl ?_
                  refine s_iconst B dX8_shelf_114 ic_2 ?_
                  refine s_put (T := TX4) (ws' := [_, _, _, _, _, _, _, _, _, _, _, _, _, _, _, _, _, _, _, _, _, _, _, _, _, _, _, _]) B inX4 tyX4_ok nmX4 27 rfl rfl 0 (Nat.le_of_ble_eq_true rfl) fl_X8_260 rfl rfl rfl rfl (Nat.le_of_ble_eq_true rfl) rfl dX8_shelf_115 ?_
                  refine s_iconst B dX8_shelf_118 ic_1 ?_
                  refine s_iret B hQ hr dX8_shelf_119 rfl ?_
                  exact ⟨hs0, nu0, ss0, hs1, nu1, ss1, hs2, nu2, ss2, 2, nu3, ss3, (shA_2y h4 h8 h13 h19 h35), (mHo_ne (by decide)), (mNu_ne (by decide)), (mSs_ne (by decide)), (mHo_ne (by decide)), (mNu_ne (by decide)), (mSs_ne (by decide)), (mHo_ne (by decide)), (mNu_ne (by decide)), (mSs_ne (by decide)), (mHo_2 h19 (fun q => absurd q h35)), (mNu_2 h19 (fun q => absurd q h35)), (mSs_2 (fun q => absurd q h35)), rfl⟩
                · exact absurd h70 h35
              · exact absurd h56 h19
          · refine s_iload_n B dX8_shelf_38 rfl 3 rfl ?_
            refine s_callSi B hsc (c_X8_isSheet l D g n0) (gw_S ml_X8_220 sm_yX8_isSheet ini_RX8 co_yX8_isSheet) hd_X8_isSheet rfl rfl ⟨(Nat.le_of_ble_eq_true rfl), (Nat.le_of_ble_eq_true rfl)⟩ [] [0, 1, 2, 3, 4] rfl rfl rfl rfl rfl (Nat.le_of_ble_eq_true rfl) dX8_shelf_39 (fun r_5 u_6 hpo => ?_)
            obtain ⟨rfl, rfl⟩ := hpo
            refine s_st (st' := [.int (if ¬ n0 < 0 ∧ n0 < 4 then 1 else 0)]) rfl ?_
            refine s_ws (ws' := [(bo, .inr (8, [.ref (an 0), .ref (ak 0), .int ik, .ref (bT), .ref (hT), .ref (ar 0), .ref bS, .ref bV, .ref (th 0)])), (an 0, .inr (2, [.ref (an 1), .ref (an 2), .ref (an 3), .ref (an 4), .ref (an 5), .ref (an 6), .ref (an 7), .int (nI n), .ref (an 8), .ref (an 9), .ref (an 10), .ref (an 11), .int (nI td), .int z, .ref (an 12)])), (an 1, .inl (g 0, 8, .inl kd)), (an 2, .inl (g 0, 8, .inl ka)), (an 3, .inl (g 0, 8, .inl ho)), (an 4, .inl (g 0, 8, .inl fa)), (an 5, .inl (g 0, 8, .inl si)), (an 6, .inl (g 0, 8, .inl kn)), (an 7, .inl (g 0, 8, .inl aw)), (an 8, .inl (g 0, 40, .inl ev)), (an 9, .inl (g 0, 40, .inl cr)), (an 10, .inl (g 0, 40, .inl tr)), (an 11, .inl (g 0, 4, .inl lw)), (an 12, .inr (0, [.int (q 0), .int (q 1), .int (q 2), .int (q 3), .int (q 4), .int (q 5), .int (q 6), .int (q 7), .int (q 8)])), (bS, .inl (g 3, 4, .inr (.inr (.inr (.inr (fun j => some (as (2 * j)))))))), (as 0, .inr (3, [.int so0, .int (nI ln0), .ref (as 1)])), (as 1, .inl (g 2, 40, .inr (.inl it0))), (as 2, .inr (3, [.int so1, .int (nI ln1), .ref (as 3)])), (as 3, .inl (g 2, 40, .inr (.inl it1))), (as 4, .inr (3, [.int so2, .int (nI ln2), .ref (as 5)])), (as 5, .inl (g 2, 40, .inr (.inl it2))), (as 6, .inr (3, [.int so3, .int (nI ln3), .ref (as 7)])), (as 7, .inl (g 2, 40, .inr (.inl it3))), (bV, .inl (g 4, 4, .inr (.inr (.inr (.inr (fun j => some (av j))))))), (av 0, .inr (4, [.int hs0, .int nu0, .int ss0])), (av 1, .inr (4, [.int hs1, .int nu1, .int ss1])), (av 2, .inr (4, [.int hs2, .int nu2, .int ss2])), (av 3, .inr (4, [.int hs3, .int nu3, .int ss3]))]) rfl ?_
            refine s_bif_ne (tgt := 47) B dX8_shelf_42 rfl (fun h42 => ?_) (fun h42 => ?_)
            · obtain ⟨k_7, hk_8, rfl⟩ := nat_lt2 (N := 4) h42.1 h42.2 (by omega)
              refine s_aload_n B dX8_shelf_47 rfl 0 rfl ?_
              refine s_get (T := TX8) B inX8 0 rfl rfl 7 (Nat.le_of_ble_eq_true rfl) fl_X8_52 rfl rfl dX8_shelf_48 ?_
              refine s_iload_n B dX8_shelf_51 rfl 1 rfl ?_
              rcases (show k_3 = 0 ∨ k_3 = 1 ∨ k_3 = 2 ∨ k_3 = 3 from by omega) with rfl | rfl | rfl | rfl
              · refine s_aldqN B 23 4 rfl rfl dX8_shelf_52 (by omega) (by decide) rfl ?_
                refine s_astore (lv' := [(4, _), (0, _), (1, _), (2, _), (3, _)]) B dX8_shelf_53 (Nat.le_of_ble_eq_true rfl) rfl ?_
                refine s_iload_n B dX8_shelf_55 rfl 3 rfl ?_
                refine s_if_ne (tgt := 68) B dX8_shelf_56 rfl (fun h56 => ?_) (fun h56 => ?_)
                · refine s_iload_n B dX8_shelf_68 rfl 3 rfl ?_
                  refine s_iconst B dX8_shelf_69 ic_1 ?_
                  refine s_icmp_ne (tgt := 112) B dX8_shelf_70 rfl (fun h70 => ?_) (fun h70 => ?_)
                  · exact absurd h35 h70
                  · refine s_aload_n B dX8_shelf_73 rfl 1 rfl ?_
                    refine s_get (T := TX8) B inX8 0 rfl rfl 6 (Nat.le_of_ble_eq_true rfl) fl_X8_46 rfl rfl dX8_shelf_74 ?_
                    refine s_iload_n B dX8_shelf_77 rfl 4 rfl ?_
                    rcases (show k_7 = 0 ∨ k_7 = 1 ∨ k_7 = 2 ∨ k_7 = 3 from by omega) with rfl | rfl | rfl | rfl
                    · refine s_aldqN B 14 3 rfl rfl dX8_shelf_78 (by omega) (by decide) rfl ?_
                      refine s_get (T := TX3) B inX3 15 rfl rfl 0 (Nat.le_of_ble_eq_true rfl) fl_X8_237 rfl rfl dX8_shelf_79 ?_
                      refine s_iconst B dX8_shelf_82 ic_m1 ?_
                      refine s_icmp_eq (tgt := 112) B dX8_shelf_83 rfl (fun h83 => ?_) (fun h83 => ?_)
                      · refine s_aload B dX8_shelf_112 0 rfl ?_
                        refine s_iconst B dX8_shelf_114 ic_2 ?_
                        refine s_put (T := TX4) (ws' := [_, _, _, _, _, _, _, _, _, _, _, _, _, _, _, _, _, _, _, _, _, _, _, _, _, _, _, _]) B inX4 tyX4_ok nmX4 24 rfl rfl 0 (Nat.le_of_ble_eq_true rfl) fl_X8_260 rfl rfl rfl rfl (Nat.le_of_ble_eq_true rfl) rfl dX8_shelf_115 ?_
                        refine s_iconst B dX8_shelf_118 ic_1 ?_
                        refine s_iret B hQ hr dX8_shelf_119 rfl ?_
                        exact ⟨2, nu0, ss0, hs1, nu1, ss1, hs2, nu2, ss2, hs3, nu3, ss3, (shA_1y h4 h35 (by assumption)), (mHo_2 h19 (fun _ => (by rw [show (nI 0).toNatClampNeg = 0 from by decide]; exact h83))), (mNu_2 h19 (fun _ => (by rw [show (nI 0).toNatClampNeg = 0 from by decide]; exact h83))), (mSs_2 (fun _ => (by rw [show (nI 0).toNatClampNeg = 0 from by decide]; exact h83))), (mHo_ne (by decide)), (mNu_ne (by decide)), (mSs_ne (by decide)), (mHo_ne (by decide)), (mNu_ne (by decide)), (mSs_ne (by decide)), (mHo_ne (by decide)), (mNu_ne (by decide)), (mSs_ne (by decide)), rfl⟩
                      · refine s_aload B dX8_shelf_86 0 rfl ?_
                        refine s_aload_n B dX8_shelf_88 rfl 1 rfl ?_
                        refine s_get (T := TX8) B inX8 0 rfl rfl 6 (Nat.le_of_ble_eq_true rfl) fl_X8_46 rfl rfl dX8_shelf_89 ?_
                        refine s_iload_n B dX8_shelf_92 rfl 4 rfl ?_
                        refine s_aldqN B 14 3 rfl rfl dX8_shelf_93 (by omega) (by decide) rfl ?_
                        refine s_get (T := TX3) B inX3 15 rfl rfl 0 (Nat.le_of_ble_eq_true rfl) fl_X8_237 rfl rfl dX8_shelf_94 ?_
                        refine s_aload_n B dX8_shelf_97 rfl 1 rfl ?_
                        refine s_get (T := TX8) B inX8 0 rfl rfl 6 (Nat.le_of_ble_eq_true rfl) fl_X8_46 rfl rfl dX8_shelf_98 ?_
                        refine s_iload_n B dX8_shelf_101 rfl 4 rfl ?_
                        refine s_aldqN B 14 3 rfl rfl dX8_shelf_102 (by omega) (by decide) rfl ?_
                        refine s_get (T := TX3) B inX3 15 rfl rfl 1 (Nat.le_of_ble_eq_true rfl) fl_X8_226 rfl rfl dX8_shelf_103 ?_
                        refine s_callVv B hsc (c_X4_holdRow l D g (av 0) hs0 nu0 ss0 so0 (nI ln0)) (gw_V ml_X8_257 im_yX4_holdRow se_yX4_holdRow ini_RX4 co_yX4_holdRow) hd_X4_holdRow rfl rfl ⟨(Nat.le_of_ble_eq_true rfl), (Nat.le_of_ble_eq_true rfl)⟩ [24] [0, 1, 2, 3, 4] rfl rfl rfl (ci := 4) (q0 := 0) rfl rfl rfl rfl rfl (Nat.le_of_ble_eq_true rfl) dX8_shelf_106 (fun u_14 hpo => ?_)
                        subst hpo
                        refine s_ws (ws' := [(bo, .inr (8, [.ref (an 0), .ref (ak 0), .int ik, .ref (bT), .ref (hT), .ref (ar 0), .ref bS, .ref bV, .ref (th 0)])), (an 0, .inr (2, [.ref (an 1), .ref (an 2), .ref (an 3), .ref (an 4), .ref (an 5), .ref (an 6), .ref (an 7), .int (nI n), .ref (an 8), .ref (an 9), .ref (an 10), .ref (an 11), .int (nI td), .int z, .ref (an 12)])), (an 1, .inl (g 0, 8, .inl kd)), (an 2, .inl (g 0, 8, .inl ka)), (an 3, .inl (g 0, 8, .inl ho)), (an 4, .inl (g 0, 8, .inl fa)), (an 5, .inl (g 0, 8, .inl si)), (an 6, .inl (g 0, 8, .inl kn)), (an 7, .inl (g 0, 8, .inl aw)), (an 8, .inl (g 0, 40, .inl ev)), (an 9, .inl (g 0, 40, .inl cr)), (an 10, .inl (g 0, 40, .inl tr)), (an 11, .inl (g 0, 4, .inl lw)), (an 12, .inr (0, [.int (q 0), .int (q 1), .int (q 2), .int (q 3), .int (q 4), .int (q 5), .int (q 6), .int (q 7), .int (q 8)])), (bS, .inl (g 3, 4, .inr (.inr (.inr (.inr (fun j => some (as (2 * j)))))))), (as 0, .inr (3, [.int so0, .int (nI ln0), .ref (as 1)])), (as 1, .inl (g 2, 40, .inr (.inl it0))), (as 2, .inr (3, [.int so1, .int (nI ln1), .ref (as 3)])), (as 3, .inl (g 2, 40, .inr (.inl it1))), (as 4, .inr (3, [.int so2, .int (nI ln2), .ref (as 5)])), (as 5, .inl (g 2, 40, .inr (.inl it2))), (as 6, .inr (3, [.int so3, .int (nI ln3), .ref (as 7)])), (as 7, .inl (g 2, 40, .inr (.inl it3))), (bV, .inl (g 4, 4, .inr (.inr (.inr (.inr (fun j => some (av j))))))), (av 0, .inr (4, [.int 1, .int (nI ln0), .int so0])), (av 1, .inr (4, [.int hs1, .int nu1, .int ss1])), (av 2, .inr (4, [.int hs2, .int nu2, .int ss2])), (av 3, .inr (4, [.int hs3, .int nu3, .int ss3]))]) rfl ?_
                        refine s_goto (tgt := 118) B dX8_shelf_109 rfl ?_
                        refine s_iconst B dX8_shelf_118 ic_1 ?_
                        refine s_iret B hQ hr dX8_shelf_119 rfl ?_
                        exact ⟨1, (nI ln0), so0, hs1, nu1, ss1, hs2, nu2, ss2, hs3, nu3, ss3, (shA_1y h4 h35 (by assumption)), (mHo_1 h35 (by rw [show (nI 0).toNatClampNeg = 0 from by decide]; exact h83)), (mNu_1 h35 (by rw [show (nI 0).toNatClampNeg = 0 from by decide]; exact h83) (by rw [show (nI 0).toNatClampNeg = 0 from by decide]; rfl)), (mSs_1 h35 (by rw [show (nI 0).toNatClampNeg = 0 from by decide]; exact h83) (by rw [show (nI 0).toNatClampNeg = 0 from by decide]; rfl)), (mHo_ne (by decide)), (mNu_ne (by decide)), (mSs_ne (by decide)), (mHo_ne (by decide)), (mNu_ne (by decide)), (mSs_ne (by decide)), (mHo_ne (by decide)), (mNu_ne (by decide)), (mSs_ne (by decide)), rfl⟩
                    · refine s_aldqN B 14 3 rfl rfl dX8_shelf_78 (by omega) (by decide) rfl ?_
                      refine s_get (T := TX3) B inX3 17 rfl rfl 0 (Nat.le_of_ble_eq_true rfl) fl_X8_237 rfl rfl dX8_shelf_79 ?_
                      refine s_iconst B dX8_shelf_82 ic_m1 ?_
                      refine s_icmp_eq (tgt := 112) B dX8_shelf_83 rfl (fun h83 => ?_) (fun h83 => ?_)
                      · refine s_aload B dX8_shelf_112 0 rfl ?_
                        refine s_iconst B dX8_shelf_114 ic_2 ?_
                        refine s_put (T := TX4) (ws' := [_, _, _, _, _, _, _, _, _, _, _, _, _, _, _, _, _, _, _, _, _, _, _, _, _, _, _, _]) B inX4 tyX4_ok nmX4 24 rfl rfl 0 (Nat.le_of_ble_eq_true rfl) fl_X8_260 rfl rfl rfl rfl (Nat.le_of_ble_eq_true rfl) rfl dX8_shelf_115 ?_
                        refine s_iconst B dX8_shelf_118 ic_1 ?_
                        refine s_iret B hQ hr dX8_shelf_119 rfl ?_
                        exact ⟨2, nu0, ss0, hs1, nu1, ss1, hs2, nu2, ss2, hs3, nu3, ss3, (shA_1y h4 h35 (by assumption)), (mHo_2 h19 (fun _ => (by rw [show (nI 1).toNatClampNeg = 1 from by decide]; exact h83))), (mNu_2 h19 (fun _ => (by rw [show (nI 1).toNatClampNeg = 1 from by decide]; exact h83))), (mSs_2 (fun _ => (by rw [show (nI 1).toNatClampNeg = 1 from by decide]; exact h83))), (mHo_ne (by decide)), (mNu_ne (by decide)), (mSs_ne (by decide)), (mHo_ne (by decide)), (mNu_ne (by decide)), (mSs_ne (by decide)), (mHo_ne (by decide)), (mNu_ne (by decide)), (mSs_ne (by decide)), rfl⟩
                      · refine s_aload B dX8_shelf_86 0 rfl ?_
                        refine s_aload_n B dX8_shelf_88 rfl 1 rfl ?_
                        refine s_get (T := TX8) B inX8 0 rfl rfl 6 (Nat.le_of_ble_eq_true rfl) fl_X8_46 rfl rfl dX8_shelf_89 ?_
                        refine s_iload_n B dX8_shelf_92 rfl 4 rfl ?_
                        refine s_aldqN B 14 3 rfl rfl dX8_shelf_93 (by omega) (by decide) rfl ?_
                        refine s_get (T := TX3) B inX3 17 rfl rfl 0 (Nat.le_of_ble_eq_true rfl) fl_X8_237 rfl rfl dX8_shelf_94 ?_
                        refine s_aload_n B dX8_shelf_97 rfl 1 rfl ?_
                        refine s_get (T := TX8) B inX8 0 rfl rfl 6 (Nat.le_of_ble_eq_true rfl) fl_X8_46 rfl rfl dX8_shelf_98 ?_
                        refine s_iload_n B dX8_shelf_101 rfl 4 rfl ?_
                        refine s_aldqN B 14 3 rfl rfl dX8_shelf_102 (by omega) (by decide) rfl ?_
                        refine s_get (T := TX3) B inX3 17 rfl rfl 1 (Nat.le_of_ble_eq_true rfl) fl_X8_226 rfl rfl dX8_shelf_103 ?_
                        refine s_callVv B hsc (c_X4_holdRow l D g (av 0) hs0 nu0 ss0 so1 (nI ln1)) (gw_V ml_X8_257 im_yX4_holdRow se_yX4_holdRow ini_RX4 co_yX4_holdRow) hd_X4_holdRow rfl rfl ⟨(Nat.le_of_ble_eq_true rfl), (Nat.le_of_ble_eq_true rfl)⟩ [24] [0, 1, 2, 3, 4] rfl rfl rfl (ci := 4) (q0 := 0) rfl rfl rfl rfl rfl (Nat.le_of_ble_eq_true rfl) dX8_shelf_106 (fun u_16 hpo => ?_)
                        subst hpo
                        refine s_ws (ws' := [(bo, .inr (8, [.ref (an 0), .ref (ak 0), .int ik, .ref (bT), .ref (hT), .ref (ar 0), .ref bS, .ref bV, .ref (th 0)])), (an 0, .inr (2, [.ref (an 1), .ref (an 2), .ref (an 3), .ref (an 4), .ref (an 5), .ref (an 6), .ref (an 7), .int (nI n), .ref (an 8), .ref (an 9), .ref (an 10), .ref (an 11), .int (nI td), .int z, .ref (an 12)])), (an 1, .inl (g 0, 8, .inl kd)), (an 2, .inl (g 0, 8, .inl ka)), (an 3, .inl (g 0, 8, .inl ho)), (an 4, .inl (g 0, 8, .inl fa)), (an 5, .inl (g 0, 8, .inl si)), (an 6, .inl (g 0, 8, .inl kn)), (an 7, .inl (g 0, 8, .inl aw)), (an 8, .inl (g 0, 40, .inl ev)), (an 9, .inl (g 0, 40, .inl cr)), (an 10, .inl (g 0, 40, .inl tr)), (an 11, .inl (g 0, 4, .inl lw)), (an 12, .inr (0, [.int (q 0), .int (q 1), .int (q 2), .int (q 3), .int (q 4), .int (q 5), .int (q 6), .int (q 7), .int (q 8)])), (bS, .inl (g 3, 4, .inr (.inr (.inr (.inr (fun j => some (as (2 * j)))))))), (as 0, .inr (3, [.int so0, .int (nI ln0), .ref (as 1)])), (as 1, .inl (g 2, 40, .inr (.inl it0))), (as 2, .inr (3, [.int so1, .int (nI ln1), .ref (as 3)])), (as 3, .inl (g 2, 40, .inr (.inl it1))), (as 4, .inr (3, [.int so2, .int (nI ln2), .ref (as 5)])), (as 5, .inl (g 2, 40, .inr (.inl it2))), (as 6, .inr (3, [.int so3, .int (nI ln3), .ref (as 7)])), (as 7, .inl (g 2, 40, .inr (.inl it3))), (bV, .inl (g 4, 4, .inr (.inr (.inr (.inr (fun j => some (av j))))))), (av 0, .inr (4, [.int 1, .int (nI ln1), .int so1])), (av 1, .inr (4, [.int hs1, .int nu1, .int ss1])), (av 2, .inr (4, [.int hs2, .int nu2, .int ss2])), (av 3, .inr (4, [.int hs3, .int nu3, .int ss3]))]) rfl ?_
                        refine s_goto (tgt := 118) B dX8_shelf_109 rfl ?_
                        refine s_iconst B dX8_shelf_118 ic_1 ?_
                        refine s_iret B hQ hr dX8_shelf_119 rfl ?_
                        exact ⟨1, (nI ln1), so1, hs1, nu1, ss1, hs2, nu2, ss2, hs3, nu3, ss3, (shA_1y h4 h35 (by assumption)), (mHo_1 h35 (by rw [show (nI 1).toNatClampNeg = 1 from by decide]; exact h83)), (mNu_1 h35 (by rw [show (nI 1).toNatClampNeg = 1 from by decide]; exact h83) (by rw [show (nI 1).toNatClampNeg = 1 from by decide]; rfl)), (mSs_1 h35 (by rw [show (nI 1).toNatClampNeg = 1 from by decide]; exact h83) (by rw [show (nI 1).toNatClampNeg = 1 from by decide]; rfl)), (mHo_ne (by decide)), (mNu_ne (by decide)), (mSs_ne (by decide)), (mHo_ne (by decide)), (mNu_ne (by decide)), (mSs_ne (by decide)), (mHo_ne (by decide)), (mNu_ne (by decide)), (mSs_ne (by decide)), rfl⟩
                    · refine s_aldqN B 14 3 rfl rfl dX8_shelf_78 (by omega) (by decide) rfl ?_
                      refine s_get (T := TX3) B inX3 19 rfl rfl 0 (Nat.le_of_ble_eq_true rfl) fl_X8_237 rfl rfl dX8_shelf_79 ?_
                      refine s_iconst B dX8_shelf_82 ic_m1 ?_
                      refine s_icmp_eq (tgt := 112) B dX8_shelf_83 rfl (fun h83 => ?_) (fun h83 => ?_)
                      · refine s_aload B dX8_shelf_112 0 rfl ?_
                        refine s_iconst B dX8_shelf_114 ic_2 ?_
                        refine s_put (T := TX4) (ws' := [_, _, _, _, _, _, _, _, _, _, _, _, _, _, _, _, _, _, _, _, _, _, _, _, _, _, _, _]) B inX4 tyX4_ok nmX4 24 rfl rfl 0 (Nat.le_of_ble_eq_true rfl) fl_X8_260 rfl rfl rfl rfl (Nat.le_of_ble_eq_true rfl) rfl dX8_shelf_115 ?_
                        refine s_iconst B dX8_shelf_118 ic_1 ?_
                        refine s_iret B hQ hr dX8_shelf_119 rfl ?_
                        exact ⟨2, nu0, ss0, hs1, nu1, ss1, hs2, nu2, ss2, hs3, nu3, ss3, (shA_1y h4 h35 (by assumption)), (mHo_2 h19 (fun _ => (by rw [show (nI 2).toNatClampNeg = 2 from by decide]; exact h83))), (mNu_2 h19 (fun _ => (by rw [show (nI 2).toNatClampNeg = 2 from by decide]; exact h83))), (mSs_2 (fun _ => (by rw [show (nI 2).toNatClampNeg = 2 from by decide]; exact h83))), (mHo_ne (by decide)), (mNu_ne (by decide)), (mSs_ne (by decide)), (mHo_ne (by decide)), (mNu_ne (by decide)), (mSs_ne (by decide)), (mHo_ne (by decide)), (mNu_ne (by decide)), (mSs_ne (by decide)), rfl⟩
                      · refine s_aload B dX8_shelf_86 0 rfl ?_
                        refine s_aload_n B dX8_shelf_88 rfl 1 rfl ?_
                        refine s_get (T := TX8) B inX8 0 rfl rfl 6 (Nat.le_of_ble_eq_true rfl) fl_X8_46 rfl rfl dX8_shelf_89 ?_
                        refine s_iload_n B dX8_shelf_92 rfl 4 rfl ?_
                        refine s_aldqN B 14 3 rfl rfl dX8_shelf_93 (by omega) (by decide) rfl ?_
                        refine s_get (T := TX3) B inX3 19 rfl rfl 0 (Nat.le_of_ble_eq_true rfl) fl_X8_237 rfl rfl dX8_shelf_94 ?_
                        refine s_aload_n B dX8_shelf_97 rfl 1 rfl ?_
                        refine s_get (T := TX8) B inX8 0 rfl rfl 6 (Nat.le_of_ble_eq_true rfl) fl_X8_46 rfl rfl dX8_shelf_98 ?_
                        refine s_iload_n B dX8_shelf_101 rfl 4 rfl ?_
                        refine s_aldqN B 14 3 rfl rfl dX8_shelf_102 (by omega) (by decide) rfl ?_
                        refine s_get (T := TX3) B inX3 19 rfl rfl 1 (Nat.le_of_ble_eq_true rfl) fl_X8_226 rfl rfl dX8_shelf_103 ?_
                        refine s_callVv B hsc (c_X4_holdRow l D g (av 0) hs0 nu0 ss0 so2 (nI ln2)) (gw_V ml_X8_257 im_yX4_holdRow se_yX4_holdRow ini_RX4 co_yX4_holdRow) hd_X4_holdRow rfl rfl ⟨(Nat.le_of_ble_eq_true rfl), (Nat.le_of_ble_eq_true rfl)⟩ [24] [0, 1, 2, 3, 4] rfl rfl rfl (ci := 4) (q0 := 0) rfl rfl rfl rfl rfl (Nat.le_of_ble_eq_true rfl) dX8_shelf_106 (fun u_18 hpo => ?_)
                        subst hpo
                        refine s_ws (ws' := [(bo, .inr (8, [.ref (an 0), .ref (ak 0), .int ik, .ref (bT), .ref (hT), .ref (ar 0), .ref bS, .ref bV, .ref (th 0)])), (an 0, .inr (2, [.ref (an 1), .ref (an 2), .ref (an 3), .ref (an 4), .ref (an 5), .ref (an 6), .ref (an 7), .int (nI n), .ref (an 8), .ref (an 9), .ref (an 10), .ref (an 11), .int (nI td), .int z, .ref (an 12)])), (an 1, .inl (g 0, 8, .inl kd)), (an 2, .inl (g 0, 8, .inl ka)), (an 3, .inl (g 0, 8, .inl ho)), (an 4, .inl (g 0, 8, .inl fa)), (an 5, .inl (g 0, 8, .inl si)), (an 6, .inl (g 0, 8, .inl kn)), (an 7, .inl (g 0, 8, .inl aw)), (an 8, .inl (g 0, 40, .inl ev)), (an 9, .inl (g 0, 40, .inl cr)), (an 10, .inl (g 0, 40, .inl tr)), (an 11, .inl (g 0, 4, .inl lw)), (an 12, .inr (0, [.int (q 0), .int (q 1), .int (q 2), .int (q 3), .int (q 4), .int (q 5), .int (q 6), .int (q 7), .int (q 8)])), (bS, .inl (g 3, 4, .inr (.inr (.inr (.inr (fun j => some (as (2 * j)))))))), (as 0, .inr (3, [.int so0, .int (nI ln0), .ref (as 1)])), (as 1, .inl (g 2, 40, .inr (.inl it0))), (as 2, .inr (3, [.int so1, .int (nI ln1), .ref (as 3)])), (as 3, .inl (g 2, 40, .inr (.inl it1))), (as 4, .inr (3, [.int so2, .int (nI ln2), .ref (as 5)])), (as 5, .inl (g 2, 40, .inr (.inl it2))), (as 6, .inr (3, [.int so3, .int (nI ln3), .ref (as 7)])), (as 7, .inl (g 2, 40, .inr (.inl it3))), (bV, .inl (g 4, 4, .inr (.inr (.inr (.inr (fun j => some (av j))))))), (av 0, .inr (4, [.int 1, .int (nI ln2), .int so2])), (av 1, .inr (4, [.int hs1, .int nu1, .int ss1])), (av 2, .inr (4, [.int hs2, .int nu2, .int ss2])), (av 3, .inr (4, [.int hs3, .int nu3, .int ss3]))]) rfl ?_
                        refine s_goto (tgt := 118) B dX8_shelf_109 rfl ?_
                        refine s_iconst B dX8_shelf_118 ic_1 ?_
                        refine s_iret B hQ hr dX8_shelf_119 rfl ?_
                        exact ⟨1, (nI ln2), so2, hs1, nu1, ss1, hs2, nu2, ss2, hs3, nu3, ss3, (shA_1y h4 h35 (by assumption)), (mHo_1 h35 (by rw [show (nI 2).toNatClampNeg = 2 from by decide]; exact h83)), (mNu_1 h35 (by rw [show (nI 2).toNatClampNeg = 2 from by decide]; exact h83) (by rw [show (nI 2).toNatClampNeg = 2 from by decide]; rfl)), (mSs_1 h35 (by rw [show (nI 2).toNatClampNeg = 2 from by decide]; exact h83) (by rw [show (nI 2).toNatClampNeg = 2 from by decide]; rfl)), (mHo_ne (by decide)), (mNu_ne (by decide)), (mSs_ne (by decide)), (mHo_ne (by decide)), (mNu_ne (by decide)), (mSs_ne (by decide)), (mHo_ne (by decide)), (mNu_ne (by decide)), (mSs_ne (by decide)), rfl⟩
                    · refine s_aldqN B 14 3 rfl rfl dX8_shelf_78 (by omega) (by decide) rfl ?_
                      refine s_get (T := TX3) B inX3 21 rfl rfl 0 (Nat.le_of_ble_eq_true rfl) fl_X8_237 rfl rfl dX8_shelf_79 ?_
                      refine s_iconst B dX8_shelf_82 ic_m1 ?_
                      refine s_icmp_eq (tgt := 112) B dX8_shelf_83 rfl (fun h83 => ?_) (fun h83 => ?_)
                      · refine s_aload B dX8_shelf_112 0 rfl ?_
                        refine s_iconst B dX8_shelf_114 ic_2 ?_
                        refine s_put (T := TX4) (ws' := [_, _, _, _, _, _, _, _, _, _, _, _, _, _, _, _, _, _, _, _, _, _, _, _, _, _, _, _]) B inX4 tyX4_ok nmX4 24 rfl rfl 0 (Nat.le_of_ble_eq_true rfl) fl_X8_260 rfl rfl rfl rfl (Nat.le_of_ble_eq_true rfl) rfl dX8_shelf_115 ?_
                        refine s_iconst B dX8_shelf_118 ic_1 ?_
                        refine s_iret B hQ hr dX8_shelf_119 rfl ?_
                        exact ⟨2, nu0, ss0, hs1, nu1, ss1, hs2, nu2, ss2, hs3, nu3, ss3, (shA_1y h4 h35 (by assumption)), (mHo_2 h19 (fun _ => (by rw [show (nI 3).toNatClampNeg = 3 from by decide]; exact h83))), (mNu_2 h19 (fun _ => (by rw [show (nI 3).toNatClampNeg = 3 from by decide]; exact h83))), (mSs_2 (fun _ => (by rw [show (nI 3).toNatClampNeg = 3 from by decide]; exact h83))), (mHo_ne (by decide)), (mNu_ne (by decide)), (mSs_ne (by decide)), (mHo_ne (by decide)), (mNu_ne (by decide)), (mSs_ne (by decide)), (mHo_ne (by decide)), (mNu_ne (by decide)), (mSs_ne (by decide)), rfl⟩
                      · refine s_aload B dX8_shelf_86 0 rfl ?_
                        refine s_aload_n B dX8_shelf_88 rfl 1 rfl ?_
                        refine s_get (T := TX8) B inX8 0 rfl rfl 6 (Nat.le_of_ble_eq_true rfl) fl_X8_46 rfl rfl dX8_shelf_89 ?_
                        refine s_iload_n B dX8_shelf_92 rfl 4 rfl ?_
                        refine s_aldqN B 14 3 rfl rfl dX8_shelf_93 (by omega) (by decide) rfl ?_
                        refine s_get (T := TX3) B inX3 21 rfl rfl 0 (Nat.le_of_ble_eq_true rfl) fl_X8_237 rfl rfl dX8_shelf_94 ?_
                        refine s_aload_n B dX8_shelf_97 rfl 1 rfl ?_
                        refine s_get (T := TX8) B inX8 0 rfl rfl 6 (Nat.le_of_ble_eq_true rfl) fl_X8_46 rfl rfl dX8_shelf_98 ?_
                        refine s_iload_n B dX8_shelf_101 rfl 4 rfl ?_
                        refine s_aldqN B 14 3 rfl rfl dX8_shelf_102 (by omega) (by decide) rfl ?_
                        refine s_get (T := TX3) B inX3 21 rfl rfl 1 (Nat.le_of_ble_eq_true rfl) fl_X8_226 rfl rfl dX8_shelf_103 ?_
                        refine s_callVv B hsc (c_X4_holdRow l D g (av 0) hs0 nu0 ss0 so3 (nI ln3)) (gw_V ml_X8_257 im_yX4_holdRow se_yX4_holdRow ini_RX4 co_yX4_holdRow) hd_X4_holdRow rfl rfl ⟨(Nat.le_of_ble_eq_true rfl), (Nat.le_of_ble_eq_true rfl)⟩ [24] [0, 1, 2, 3, 4] rfl rfl rfl (ci := 4) (q0 := 0) rfl rfl rfl rfl rfl (Nat.le_of_ble_eq_true rfl) dX8_shelf_106 (fun u_20 hpo => ?_)
                        subst hpo
                        refine s_ws (ws' := [(bo, .inr (8, [.ref (an 0), .ref (ak 0), .int ik, .ref (bT), .ref (hT), .ref (ar 0), .ref bS, .ref bV, .ref (th 0)])), (an 0, .inr (2, [.ref (an 1), .ref (an 2), .ref (an 3), .ref (an 4), .ref (an 5), .ref (an 6), .ref (an 7), .int (nI n), .ref (an 8), .ref (an 9), .ref (an 10), .ref (an 11), .int (nI td), .int z, .ref (an 12)])), (an 1, .inl (g 0, 8, .inl kd)), (an 2, .inl (g 0, 8, .inl ka)), (an 3, .inl (g 0, 8, .inl ho)), (an 4, .inl (g 0, 8, .inl fa)), (an 5, .inl (g 0, 8, .inl si)), (an 6, .inl (g 0, 8, .inl kn)), (an 7, .inl (g 0, 8, .inl aw)), (an 8, .inl (g 0, 40, .inl ev)), (an 9, .inl (g 0, 40, .inl cr)), (an 10, .inl (g 0, 40, .inl tr)), (an 11, .inl (g 0, 4, .inl lw)), (an 12, .inr (0, [.int (q 0), .int (q 1), .int (q 2), .int (q 3), .int (q 4), .int (q 5), .int (q 6), .int (q 7), .int (q 8)])), (bS, .inl (g 3, 4, .inr (.inr (.inr (.inr (fun j => some (as (2 * j)))))))), (as 0, .inr (3, [.int so0, .int (nI ln0), .ref (as 1)])), (as 1, .inl (g 2, 40, .inr (.inl it0))), (as 2, .inr (3, [.int so1, .int (nI ln1), .ref (as 3)])), (as 3, .inl (g 2, 40, .inr (.inl it1))), (as 4, .inr (3, [.int so2, .int (nI ln2), .ref (as 5)])), (as 5, .inl (g 2, 40, .inr (.inl it2))), (as 6, .inr (3, [.int so3, .int (nI ln3), .ref (as 7)])), (as 7, .inl (g 2, 40, .inr (.inl it3))), (bV, .inl (g 4, 4, .inr (.inr (.inr (.inr (fun j => some (av j))))))), (av 0, .inr (4, [.int 1, .int (nI ln3), .int so3])), (av 1, .inr (4, [.int hs1, .int nu1, .int ss1])), (av 2, .inr (4, [.int hs2, .int nu2, .int ss2])), (av 3, .inr (4, [.int hs3, .int nu3, .int ss3]))]) rfl ?_
                        refine s_goto (tgt := 118) B dX8_shelf_109 rfl ?_
                        refine s_iconst B dX8_shelf_118 ic_1 ?_
                        refine s_iret B hQ hr dX8_shelf_119 rfl ?_
                        exact ⟨1, (nI ln3), so3, hs1, nu1, ss1, hs2, nu2, ss2, hs3, nu3, ss3, (shA_1y h4 h35 (by assumption)), (mHo_1 h35 (by rw [show (nI 3).toNatClampNeg = 3 from by decide]; exact h83)), (mNu_1 h35 (by rw [show (nI 3).toNatClampNeg = 3 from by decide]; exact h83) (by rw [show (nI 3).toNatClampNeg = 3 from by decide]; rfl)), (mSs_1 h35 (by rw [show (nI 3).toNatClampNeg = 3 from by decide]; exact h83) (by rw [show (nI 3).toNatClampNeg = 3 from by decide]; rfl)), (mHo_ne (by decide)), (mNu_ne (by decide)), (mSs_ne (by decide)), (mHo_ne (by decide)), (mNu_ne (by decide)), (mSs_ne (by decide)), (mHo_ne (by decide)), (mNu_ne (by decide)), (mSs_ne (by decide)), rfl⟩
                · exact absurd h56 h19
              · refine s_aldqN B 23 4 rfl rfl dX8_shelf_52 (by omega) (by decide) rfl ?_
                refine s_astore (lv' := [(4, _), (0, _), (1, _), (2, _), (3, _)]) B dX8_shelf_53 (Nat.le_of_ble_eq_true rfl) rfl ?_
                refine s_iload_n B dX8_shelf_55 rfl 3 rfl ?_
                refine s_if_ne (tgt := 68) B dX8_shelf_56 rfl (fun h56 => ?_) (fun h56 => ?_)
                · refine s_iload_n B dX8_shelf_68 rfl 3 rfl ?_
                  refine s_iconst B dX8_shelf_69 ic_1 ?_
                  refine s_icmp_ne (tgt := 112) B dX8_shelf_70 rfl (fun h70 => ?_) (fun h70 => ?_)
                  · exact absurd h35 h70
                  · refine s_aload_n B dX8_shelf_73 rfl 1 rfl ?_
                    refine s_get (T := TX8) B inX8 0 rfl rfl 6 (Nat.le_of_ble_eq_true rfl) fl_X8_46 rfl rfl dX8_shelf_74 ?_
                    refine s_iload_n B dX8_shelf_77 rfl 4 rfl ?_
                    rcases (show k_7 = 0 ∨ k_7 = 1 ∨ k_7 = 2 ∨ k_7 = 3 from by omega) with rfl | rfl | rfl | rfl
                    · refine s_aldqN B 14 3 rfl rfl dX8_shelf_78 (by omega) (by decide) rfl ?_
                      refine s_get (T := TX3) B inX3 15 rfl rfl 0 (Nat.le_of_ble_eq_true rfl) fl_X8_237 rfl rfl dX8_shelf_79 ?_
                      refine s_iconst B dX8_shelf_82 ic_m1 ?_
                      refine s_icmp_eq (tgt := 112) B dX8_shelf_83 rfl (fun h83 => ?_) (fun h83 => ?_)
                      · refine s_aload B dX8_shelf_112 0 rfl ?_
                        refine s_iconst B dX8_shelf_114 ic_2 ?_
                        refine s_put (T := TX4) (ws' := [_, _, _, _, _, _, _, _, _, _, _, _, _, _, _, _, _, _, _, _, _, _, _, _, _, _, _, _]) B inX4 tyX4_ok nmX4 25 rfl rfl 0 (Nat.le_of_ble_eq_true rfl) fl_X8_260 rfl rfl rfl rfl (Nat.le_of_ble_eq_true rfl) rfl dX8_shelf_115 ?_
                        refine s_iconst B dX8_shelf_118 ic_1 ?_
                        refine s_iret B hQ hr dX8_shelf_119 rfl ?_
                        exact ⟨hs0, nu0, ss0, 2, nu1, ss1, hs2, nu2, ss2, hs3, nu3, ss3, (shA_1y h4 h35 (by assumption)), (mHo_ne (by decide)), (mNu_ne (by decide)), (mSs_ne (by decide)), (mHo_2 h19 (fun _ => (by rw [show (nI 0).toNatClampNeg = 0 from by decide]; exact h83))), (mNu_2 h19 (fun _ => (by rw [show (nI 0).toNatClampNeg = 0 from by decide]; exact h83))), (mSs_2 (fun _ => (by rw [show (nI 0).toNatClampNeg = 0 from by decide]; exact h83))), (mHo_ne (by decide)), (mNu_ne (by decide)), (mSs_ne (by decide)), (mHo_ne (by decide)), (mNu_ne (by decide)), (mSs_ne (by decide)), rfl⟩
                      · refine s_aload B dX8_shelf_86 0 rfl ?_
                        refine s_aload_n B dX8_shelf_88 rfl 1 rfl ?_
                        refine s_get (T := TX8) B inX8 0 rfl rfl 6 (Nat.le_of_ble_eq_true rfl) fl_X8_46 rfl rfl dX8_shelf_89 ?_
                        refine s_iload_n B dX8_shelf_92 rfl 4 rfl ?_
                        refine s_aldqN B 14 3 rfl rfl dX8_shelf_93 (by omega) (by decide) rfl ?_
                        refine s_get (T := TX3) B inX3 15 rfl rfl 0 (Nat.le_of_ble_eq_true rfl) fl_X8_237 rfl rfl dX8_shelf_94 ?_
                        refine s_aload_n B dX8_shelf_97 rfl 1 rfl ?_
                        refine s_get (T := TX8) B inX8 0 rfl rfl 6 (Nat.le_of_ble_eq_true rfl) fl_X8_46 rfl rfl dX8_shelf_98 ?_
                        refine s_iload_n B dX8_shelf_101 rfl 4 rfl ?_
                        refine s_aldqN B 14 3 rfl rfl dX8_shelf_102 (by omega) (by decide) rfl ?_
                        refine s_get (T := TX3) B inX3 15 rfl rfl 1 (Nat.le_of_ble_eq_true rfl) fl_X8_226 rfl rfl dX8_shelf_103 ?_
                        refine s_callVv B hsc (c_X4_holdRow l D g (av 1) hs1 nu1 ss1 so0 (nI ln0)) (gw_V ml_X8_257 im_yX4_holdRow se_yX4_holdRow ini_RX4 co_yX4_holdRow) hd_X4_holdRow rfl rfl ⟨(Nat.le_of_ble_eq_true rfl), (Nat.le_of_ble_eq_true rfl)⟩ [25] [0, 1, 2, 3, 4] rfl rfl rfl (ci := 4) (q0 := 0) rfl rfl rfl rfl rfl (Nat.le_of_ble_eq_true rfl) dX8_shelf_106 (fun u_22 hpo => ?_)
                        subst hpo
                        refine s_ws (ws' := [(bo, .inr (8, [.ref (an 0), .ref (ak 0), .int ik, .ref (bT), .ref (hT), .ref (ar 0), .ref bS, .ref bV, .ref (th 0)])), (an 0, .inr (2, [.ref (an 1), .ref (an 2), .ref (an 3), .ref (an 4), .ref (an 5), .ref (an 6), .ref (an 7), .int (nI n), .ref (an 8), .ref (an 9), .ref (an 10), .ref (an 11), .int (nI td), .int z, .ref (an 12)])), (an 1, .inl (g 0, 8, .inl kd)), (an 2, .inl (g 0, 8, .inl ka)), (an 3, .inl (g 0, 8, .inl ho)), (an 4, .inl (g 0, 8, .inl fa)), (an 5, .inl (g 0, 8, .inl si)), (an 6, .inl (g 0, 8, .inl kn)), (an 7, .inl (g 0, 8, .inl aw)), (an 8, .inl (g 0, 40, .inl ev)), (an 9, .inl (g 0, 40, .inl cr)), (an 10, .inl (g 0, 40, .inl tr)), (an 11, .inl (g 0, 4, .inl lw)), (an 12, .inr (0, [.int (q 0), .int (q 1), .int (q 2), .int (q 3), .int (q 4), .int (q 5), .int (q 6), .int (q 7), .int (q 8)])), (bS, .inl (g 3, 4, .inr (.inr (.inr (.inr (fun j => some (as (2 * j)))))))), (as 0, .inr (3, [.int so0, .int (nI ln0), .ref (as 1)])), (as 1, .inl (g 2, 40, .inr (.inl it0))), (as 2, .inr (3, [.int so1, .int (nI ln1), .ref (as 3)])), (as 3, .inl (g 2, 40, .inr (.inl it1))), (as 4, .inr (3, [.int so2, .int (nI ln2), .ref (as 5)])), (as 5, .inl (g 2, 40, .inr (.inl it2))), (as 6, .inr (3, [.int so3, .int (nI ln3), .ref (as 7)])), (as 7, .inl (g 2, 40, .inr (.inl it3))), (bV, .inl (g 4, 4, .inr (.inr (.inr (.inr (fun j => some (av j))))))), (av 0, .inr (4, [.int hs0, .int nu0, .int ss0])), (av 1, .inr (4, [.int 1, .int (nI ln0), .int so0])), (av 2, .inr (4, [.int hs2, .int nu2, .int ss2])), (av 3, .inr (4, [.int hs3, .int nu3, .int ss3]))]) rfl ?_
                        refine s_goto (tgt := 118) B dX8_shelf_109 rfl ?_
                        refine s_iconst B dX8_shelf_118 ic_1 ?_
                        refine s_iret B hQ hr dX8_shelf_119 rfl ?_
                        exact ⟨hs0, nu0, ss0, 1, (nI ln0), so0, hs2, nu2, ss2, hs3, nu3, ss3, (shA_1y h4 h35 (by assumption)), (mHo_ne (by decide)), (mNu_ne (by decide)), (mSs_ne (by decide)), (mHo_1 h35 (by rw [show (nI 0).toNatClampNeg = 0 from by decide]; exact h83)), (mNu_1 h35 (by rw [show (nI 0).toNatClampNeg = 0 from by decide]; exact h83) (by rw [show (nI 0).toNatClampNeg = 0 from by decide]; rfl)), (mSs_1 h35 (by rw [show (nI 0).toNatClampNeg = 0 from by decide]; exact h83) (by rw [show (nI 0).toNatClampNeg = 0 from by decide]; rfl)), (mHo_ne (by decide)), (mNu_ne (by decide)), (mSs_ne (by decide)), (mHo_ne (by decide)), (mNu_ne (by decide)), (mSs_ne (by decide)), rfl⟩
                    · refine s_aldqN B 14 3 rfl rfl dX8_shelf_78 (by omega) (by decide) rfl ?_
                      refine s_get (T := TX3) B inX3 17 rfl rfl 0 (Nat.le_of_ble_eq_true rfl) fl_X8_237 rfl rfl dX8_shelf_79 ?_
                      refine s_iconst B dX8_shelf_82 ic_m1 ?_
                      refine s_icmp_eq (tgt := 112) B dX8_shelf_83 rfl (fun h83 => ?_) (fun h83 => ?_)
                      · refine s_aload B dX8_shelf_112 0 rfl ?_
                        refine s_iconst B dX8_shelf_114 ic_2 ?_
                        refine s_put (T := TX4) (ws' := [_, _, _, _, _, _, _, _, _, _, _, _, _, _, _, _, _, _, _, _, _, _, _, _, _, _, _, _]) B inX4 tyX4_ok nmX4 25 rfl rfl 0 (Nat.le_of_ble_eq_true rfl) fl_X8_260 rfl rfl rfl rfl (Nat.le_of_ble_eq_true rfl) rfl dX8_shelf_115 ?_
                        refine s_iconst B dX8_shelf_118 ic_1 ?_
                        refine s_iret B hQ hr dX8_shelf_119 rfl ?_
                        exact ⟨hs0, nu0, ss0, 2, nu1, ss1, hs2, nu2, ss2, hs3, nu3, ss3, (shA_1y h4 h35 (by assumption)), (mHo_ne (by decide)), (mNu_ne (by decide)), (mSs_ne (by decide)), (mHo_2 h19 (fun _ => (by rw [show (nI 1).toNatClampNeg = 1 from by decide]; exact h83))), (mNu_2 h19 (fun _ => (by rw [show (nI 1).toNatClampNeg = 1 from by decide]; exact h83))), (mSs_2 (fun _ => (by rw [show (nI 1).toNatClampNeg = 1 from by decide]; exact h83))), (mHo_ne (by decide)), (mNu_ne (by decide)), (mSs_ne (by decide)), (mHo_ne (by decide)), (mNu_ne (by decide)), (mSs_ne (by decide)), rfl⟩
                      · refine s_aload B dX8_shelf_86 0 rfl ?_
                        refine s_aload_n B dX8_shelf_88 rfl 1 rfl ?_
                        refine s_get (T := TX8) B inX8 0 rfl rfl 6 (Nat.le_of_ble_eq_true rfl) fl_X8_46 rfl rfl dX8_shelf_89 ?_
                        refine s_iload_n B dX8_shelf_92 rfl 4 rfl ?_
                        refine s_aldqN B 14 3 rfl rfl dX8_shelf_93 (by omega) (by decide) rfl ?_
                        refine s_get (T := TX3) B inX3 17 rfl rfl 0 (Nat.le_of_ble_eq_true rfl) fl_X8_237 rfl rfl dX8_shelf_94 ?_
                        refine s_aload_n B dX8_shelf_97 rfl 1 rfl ?_
                        refine s_get (T := TX8) B inX8 0 rfl rfl 6 (Nat.le_of_ble_eq_true rfl) fl_X8_46 rfl rfl dX8_shelf_98 ?_
                        refine s_iload_n B dX8_shelf_101 rfl 4 rfl ?_
                        refine s_aldqN B 14 3 rfl rfl dX8_shelf_102 (by omega) (by decide) rfl ?_
                        refine s_get (T := TX3) B inX3 17 rfl rfl 1 (Nat.le_of_ble_eq_true rfl) fl_X8_226 rfl rfl dX8_shelf_103 ?_
                        refine s_callVv B hsc (c_X4_holdRow l D g (av 1) hs1 nu1 ss1 so1 (nI ln1)) (gw_V ml_X8_257 im_yX4_holdRow se_yX4_holdRow ini_RX4 co_yX4_holdRow) hd_X4_holdRow rfl rfl ⟨(Nat.le_of_ble_eq_true rfl), (Nat.le_of_ble_eq_true rfl)⟩ [25] [0, 1, 2, 3, 4] rfl rfl rfl (ci := 4) (q0 := 0) rfl rfl rfl rfl rfl (Nat.le_of_ble_eq_true rfl) dX8_shelf_106 (fun u_24 hpo => ?_)
                        subst hpo
                        refine s_ws (ws' := [(bo, .inr (8, [.ref (an 0), .ref (ak 0), .int ik, .ref (bT), .ref (hT), .ref (ar 0), .ref bS, .ref bV, .ref (th 0)])), (an 0, .inr (2, [.ref (an 1), .ref (an 2), .ref (an 3), .ref (an 4), .ref (an 5), .ref (an 6), .ref (an 7), .int (nI n), .ref (an 8), .ref (an 9), .ref (an 10), .ref (an 11), .int (nI td), .int z, .ref (an 12)])), (an 1, .inl (g 0, 8, .inl kd)), (an 2, .inl (g 0, 8, .inl ka)), (an 3, .inl (g 0, 8, .inl ho)), (an 4, .inl (g 0, 8, .inl fa)), (an 5, .inl (g 0, 8, .inl si)), (an 6, .inl (g 0, 8, .inl kn)), (an 7, .inl (g 0, 8, .inl aw)), (an 8, .inl (g 0, 40, .inl ev)), (an 9, .inl (g 0, 40, .inl cr)), (an 10, .inl (g 0, 40, .inl tr)), (an 11, .inl (g 0, 4, .inl lw)), (an 12, .inr (0, [.int (q 0), .int (q 1), .int (q 2), .int (q 3), .int (q 4), .int (q 5), .int (q 6), .int (q 7), .int (q 8)])), (bS, .inl (g 3, 4, .inr (.inr (.inr (.inr (fun j => some (as (2 * j)))))))), (as 0, .inr (3, [.int so0, .int (nI ln0), .ref (as 1)])), (as 1, .inl (g 2, 40, .inr (.inl it0))), (as 2, .inr (3, [.int so1, .int (nI ln1), .ref (as 3)])), (as 3, .inl (g 2, 40, .inr (.inl it1))), (as 4, .inr (3, [.int so2, .int (nI ln2), .ref (as 5)])), (as 5, .inl (g 2, 40, .inr (.inl it2))), (as 6, .inr (3, [.int so3, .int (nI ln3), .ref (as 7)])), (as 7, .inl (g 2, 40, .inr (.inl it3))), (bV, .inl (g 4, 4, .inr (.inr (.inr (.inr (fun j => some (av j))))))), (av 0, .inr (4, [.int hs0, .int nu0, .int ss0])), (av 1, .inr (4, [.int 1, .int (nI ln1), .int so1])), (av 2, .inr (4, [.int hs2, .int nu2, .int ss2])), (av 3, .inr (4, [.int hs3, .int nu3, .int ss3]))]) rfl ?_
                        refine s_goto (tgt := 118) B dX8_shelf_109 rfl ?_
                        refine s_iconst B dX8_shelf_118 ic_1 ?_
                        refine s_iret B hQ hr dX8_shelf_119 rfl ?_
                        exact ⟨hs0, nu0, ss0, 1, (nI ln1), so1, hs2, nu2, ss2, hs3, nu3, ss3, (shA_1y h4 h35 (by assumption)), (mHo_ne (by decide)), (mNu_ne (by decide)), (mSs_ne (by decide)), (mHo_1 h35 (by rw [show (nI 1).toNatClampNeg = 1 from by decide]; exact h83)), (mNu_1 h35 (by rw [show (nI 1).toNatClampNeg = 1 from by decide]; exact h83) (by rw [show (nI 1).toNatClampNeg = 1 from by decide]; rfl)), (mSs_1 h35 (by rw [show (nI 1).toNatClampNeg = 1 from by decide]; exact h83) (by rw [show (nI 1).toNatClampNeg = 1 from by decide]; rfl)), (mHo_ne (by decide)), (mNu_ne (by decide)), (mSs_ne (by decide)), (mHo_ne (by decide)), (mNu_ne (by decide)), (mSs_ne (by decide)), rfl⟩
                    · refine s_aldqN B 14 3 rfl rfl dX8_shelf_78 (by omega) (by decide) rfl ?_
                      refine s_get (T := TX3) B inX3 19 rfl rfl 0 (Nat.le_of_ble_eq_true rfl) fl_X8_237 rfl rfl dX8_shelf_79 ?_
                      refine s_iconst B dX8_shelf_82 ic_m1 ?_
                      refine s_icmp_eq (tgt := 112) B dX8_shelf_83 rfl (fun h83 => ?_) (fun h83 => ?_)
                      · refine s_aload B dX8_shelf_112 0 rfl ?_
                        refine s_iconst B dX8_shelf_114 ic_2 ?_
                        refine s_put (T := TX4) (ws' := [_, _, _, _, _, _, _, _, _, _, _, _, _, _, _, _, _, _, _, _, _, _, _, _, _, _, _, _]) B inX4 tyX4_ok nmX4 25 rfl rfl 0 (Nat.le_of_ble_eq_true rfl) fl_X8_260 rfl rfl rfl rfl (Nat.le_of_ble_eq_true rfl) rfl dX8_shelf_115 ?_
                        refine s_iconst B dX8_shelf_118 ic_1 ?_
                        refine s_iret B hQ hr dX8_shelf_119 rfl ?_
                        exact ⟨hs0, nu0, ss0, 2, nu1, ss1, hs2, nu2, ss2, hs3, nu3, ss3, (shA_1y h4 h35 (by assumption)), (mHo_ne (by decide)), (mNu_ne (by decide)), (mSs_ne (by decide)), (mHo_2 h19 (fun _ => (by rw [show (nI 2).toNatClampNeg = 2 from by decide]; exact h83))), (mNu_2 h19 (fun _ => (by rw [show (nI 2).toNatClampNeg = 2 from by decide]; exact h83))), (mSs_2 (fun _ => (by rw [show (nI 2).toNatClampNeg = 2 from by decide]; exact h83))), (mHo_ne (by decide)), (mNu_ne (by decide)), (mSs_ne (by decide)), (mHo_ne (by decide)), (mNu_ne (by decide)), (mSs_ne (by decide)), rfl⟩
                      · refine s_aload B dX8_shelf_86 0 rfl ?_
                        refine s_aload_n B dX8_shelf_88 rfl 1 rfl ?_
                        refine s_get (T := TX8) B inX8 0 rfl rfl 6 (Nat.le_of_ble_eq_true rfl) fl_X8_46 rfl rfl dX8_shelf_89 ?_
                        refine s_iload_n B dX8_shelf_92 rfl 4 rfl ?_
                        refine s_aldqN B 14 3 rfl rfl dX8_shelf_93 (by omega) (by decide) rfl ?_
                        refine s_get (T := TX3) B inX3 19 rfl rfl 0 (Nat.le_of_ble_eq_true rfl) fl_X8_237 rfl rfl dX8_shelf_94 ?_
                        refine s_aload_n B dX8_shelf_97 rfl 1 rfl ?_
                        refine s_get (T := TX8) B inX8 0 rfl rfl 6 (Nat.le_of_ble_eq_true rfl) fl_X8_46 rfl rfl dX8_shelf_98 ?_
                        refine s_iload_n B dX8_shelf_101 rfl 4 rfl ?_
                        refine s_aldqN B 14 3 rfl rfl dX8_shelf_102 (by omega) (by decide) rfl ?_
                        refine s_get (T := TX3) B inX3 19 rfl rfl 1 (Nat.le_of_ble_eq_true rfl) fl_X8_226 rfl rfl dX8_shelf_103 ?_
                        refine s_callVv B hsc (c_X4_holdRow l D g (av 1) hs1 nu1 ss1 so2 (nI ln2)) (gw_V ml_X8_257 im_yX4_holdRow se_yX4_holdRow ini_RX4 co_yX4_holdRow) hd_X4_holdRow rfl rfl ⟨(Nat.le_of_ble_eq_true rfl), (Nat.le_of_ble_eq_true rfl)⟩ [25] [0, 1, 2, 3, 4] rfl rfl rfl (ci := 4) (q0 := 0) rfl rfl rfl rfl rfl (Nat.le_of_ble_eq_true rfl) dX8_shelf_106 (fun u_26 hpo => ?_)
                        subst hpo
                        refine s_ws (ws' := [(bo, .inr (8, [.ref (an 0), .ref (ak 0), .int ik, .ref (bT), .ref (hT), .ref (ar 0), .ref bS, .ref bV, .ref (th 0)])), (an 0, .inr (2, [.ref (an 1), .ref (an 2), .ref (an 3), .ref (an 4), .ref (an 5), .ref (an 6), .ref (an 7), .int (nI n), .ref (an 8), .ref (an 9), .ref (an 10), .ref (an 11), .int (nI td), .int z, .ref (an 12)])), (an 1, .inl (g 0, 8, .inl kd)), (an 2, .inl (g 0, 8, .inl ka)), (an 3, .inl (g 0, 8, .inl ho)), (an 4, .inl (g 0, 8, .inl fa)), (an 5, .inl (g 0, 8, .inl si)), (an 6, .inl (g 0, 8, .inl kn)), (an 7, .inl (g 0, 8, .inl aw)), (an 8, .inl (g 0, 40, .inl ev)), (an 9, .inl (g 0, 40, .inl cr)), (an 10, .inl (g 0, 40, .inl tr)), (an 11, .inl (g 0, 4, .inl lw)), (an 12, .inr (0, [.int (q 0), .int (q 1), .int (q 2), .int (q 3), .int (q 4), .int (q 5), .int (q 6), .int (q 7), .int (q 8)])), (bS, .inl (g 3, 4, .inr (.inr (.inr (.inr (fun j => some (as (2 * j)))))))), (as 0, .inr (3, [.int so0, .int (nI ln0), .ref (as 1)])), (as 1, .inl (g 2, 40, .inr (.inl it0))), (as 2, .inr (3, [.int so1, .int (nI ln1), .ref (as 3)])), (as 3, .inl (g 2, 40, .inr (.inl it1))), (as 4, .inr (3, [.int so2, .int (nI ln2), .ref (as 5)])), (as 5, .inl (g 2, 40, .inr (.inl it2))), (as 6, .inr (3, [.int so3, .int (nI ln3), .ref (as 7)])), (as 7, .inl (g 2, 40, .inr (.inl it3))), (bV, .inl (g 4, 4, .inr (.inr (.inr (.inr (fun j => some (av j))))))), (av 0, .inr (4, [.int hs0, .int nu0, .int ss0])), (av 1, .inr (4, [.int 1, .int (nI ln2), .int so2])), (av 2, .inr (4, [.int hs2, .int nu2, .int ss2])), (av 3, .inr (4, [.int hs3, .int nu3, .int ss3]))]) rfl ?_
                        refine s_goto (tgt := 118) B dX8_shelf_109 rfl ?_
                        refine s_iconst B dX8_shelf_118 ic_1 ?_
                        refine s_iret B hQ hr dX8_shelf_119 rfl ?_
                        exact ⟨hs0, nu0, ss0, 1, (nI ln2), so2, hs2, nu2, ss2, hs3, nu3, ss3, (shA_1y h4 h35 (by assumption)), (mHo_ne (by decide)), (mNu_ne (by decide)), (mSs_ne (by decide)), (mHo_1 h35 (by rw [show (nI 2).toNatClampNeg = 2 from by decide]; exact h83)), (mNu_1 h35 (by rw [show (nI 2).toNatClampNeg = 2 from by decide]; exact h83) (by rw [show (nI 2).toNatClampNeg = 2 from by decide]; rfl)), (mSs_1 h35 (by rw [show (nI 2).toNatClampNeg = 2 from by decide]; exact h83) (by rw [show (nI 2).toNatClampNeg = 2 from by decide]; rfl)), (mHo_ne (by decide)), (mNu_ne (by decide)), (mSs_ne (by decide)), (mHo_ne (by decide)), (mNu_ne (by decide)), (mSs_ne (by decide)), rfl⟩
                    · refine s_aldqN B 14 3 rfl rfl dX8_shelf_78 (by omega) (by decide) rfl ?_
                      refine s_get (T := TX3) B inX3 21 rfl rfl 0 (Nat.le_of_ble_eq_true rfl) fl_X8_237 rfl rfl dX8_shelf_79 ?_
                      refine s_iconst B dX8_shelf_82 ic_m1 ?_
                      refine s_icmp_eq (tgt := 112) B dX8_shelf_83 rfl (fun h83 => ?_) (fun h83 => ?_)
                      · refine s_aload B dX8_shelf_112 0 rfl ?_
                        refine s_iconst B dX8_shelf_114 ic_2 ?_
                        refine s_put (T := TX4) (ws' := [_, _, _, _, _, _, _, _, _, _, _, _, _, _, _, _, _, _, _, _, _, _, _, _, _, _, _, _]) B inX4 tyX4_ok nmX4 25 rfl rfl 0 (Nat.le_of_ble_eq_true rfl) fl_X8_260 rfl rfl rfl rfl (Nat.le_of_ble_eq_true rfl) rfl dX8_shelf_115 ?_
                        refine s_iconst B dX8_shelf_118 ic_1 ?_
                        refine s_iret B hQ hr dX8_shelf_119 rfl ?_
                        exact ⟨hs0, nu0, ss0, 2, nu1, ss1, hs2, nu2, ss2, hs3, nu3, ss3, (shA_1y h4 h35 (by assumption)), (mHo_ne (by decide)), (mNu_ne (by decide)), (mSs_ne (by decide)), (mHo_2 h19 (fun _ => (by rw [show (nI 3).toNatClampNeg = 3 from by decide]; exact h83))), (mNu_2 h19 (fun _ => (by rw [show (nI 3).toNatClampNeg = 3 from by decide]; exact h83))), (mSs_2 (fun _ => (by rw [show (nI 3).toNatClampNeg = 3 from by decide]; exact h83))), (mHo_ne (by decide)), (mNu_ne (by decide)), (mSs_ne (by decide)), (mHo_ne (by decide)), (mNu_ne (by decide)), (mSs_ne (by decide)), rfl⟩
                      · refine s_aload B dX8_shelf_86 0 rfl ?_
                        refine s_aload_n B dX8_shelf_88 rfl 1 rfl ?_
                        refine s_get (T := TX8) B inX8 0 rfl rfl 6 (Nat.le_of_ble_eq_true rfl) fl_X8_46 rfl rfl dX8_shelf_89 ?_
                        refine s_iload_n B dX8_shelf_92 rfl 4 rfl ?_
                        refine s_aldqN B 14 3 rfl rfl dX8_shelf_93 (by omega) (by decide) rfl ?_
                        refine s_get (T := TX3) B inX3 21 rfl rfl 0 (Nat.le_of_ble_eq_true rfl) fl_X8_237 rfl rfl dX8_shelf_94 ?_
                        refine s_aload_n B dX8_shelf_97 rfl 1 rfl ?_
                        refine s_get (T := TX8) B inX8 0 rfl rfl 6 (Nat.le_of_ble_eq_true rfl) fl_X8_46 rfl rfl dX8_shelf_98 ?_
                        refine s_iload_n B dX8_shelf_101 rfl 4 rfl ?_
                        refine s_aldqN B 14 3 rfl rfl dX8_shelf_102 (by omega) (by decide) rfl ?_
                        refine s_get (T := TX3) B inX3 21 rfl rfl 1 (Nat.le_of_ble_eq_true rfl) fl_X8_226 rfl rfl dX8_shelf_103 ?_
                        refine s_callVv B hsc (c_X4_holdRow l D g (av 1) hs1 nu1 ss1 so3 (nI ln3)) (gw_V ml_X8_257 im_yX4_holdRow se_yX4_holdRow ini_RX4 co_yX4_holdRow) hd_X4_holdRow rfl rfl ⟨(Nat.le_of_ble_eq_true rfl), (Nat.le_of_ble_eq_true rfl)⟩ [25] [0, 1, 2, 3, 4] rfl rfl rfl (ci := 4) (q0 := 0) rfl rfl rfl rfl rfl (Nat.le_of_ble_eq_true rfl) dX8_shelf_106 (fun u_28 hpo => ?_)
                        subst hpo
                        refine s_ws (ws' := [(bo, .inr (8, [.ref (an 0), .ref (ak 0), .int ik, .ref (bT), .ref (hT), .ref (ar 0), .ref bS, .ref bV, .ref (th 0)])), (an 0, .inr (2, [.ref (an 1), .ref (an 2), .ref (an 3), .ref (an 4), .ref (an 5), .ref (an 6), .ref (an 7), .int (nI n), .ref (an 8), .ref (an 9), .ref (an 10), .ref (an 11), .int (nI td), .int z, .ref (an 12)])), (an 1, .inl (g 0, 8, .inl kd)), (an 2, .inl (g 0, 8, .inl ka)), (an 3, .inl (g 0, 8, .inl ho)), (an 4, .inl (g 0, 8, .inl fa)), (an 5, .inl (g 0, 8, .inl si)), (an 6, .inl (g 0, 8, .inl kn)), (an 7, .inl (g 0, 8, .inl aw)), (an 8, .inl (g 0, 40, .inl ev)), (an 9, .inl (g 0, 40, .inl cr)), (an 10, .inl (g 0, 40, .inl tr)), (an 11, .inl (g 0, 4, .inl lw)), (an 12, .inr (0, [.int (q 0), .int (q 1), .int (q 2), .int (q 3), .int (q 4), .int (q 5), .int (q 6), .int (q 7), .int (q 8)])), (bS, .inl (g 3, 4, .inr (.inr (.inr (.inr (fun j => some (as (2 * j)))))))), (as 0, .inr (3, [.int so0, .int (nI ln0), .ref (as 1)])), (as 1, .inl (g 2, 40, .inr (.inl it0))), (as 2, .inr (3, [.int so1, .int (nI ln1), .ref (as 3)])), (as 3, .inl (g 2, 40, .inr (.inl it1))), (as 4, .inr (3, [.int so2, .int (nI ln2), .ref (as 5)])), (as 5, .inl (g 2, 40, .inr (.inl it2))), (as 6, .inr (3, [.int so3, .int (nI ln3), .ref (as 7)])), (as 7, .inl (g 2, 40, .inr (.inl it3))), (bV, .inl (g 4, 4, .inr (.inr (.inr (.inr (fun j => some (av j))))))), (av 0, .inr (4, [.int hs0, .int nu0, .int ss0])), (av 1, .inr (4, [.int 1, .int (nI ln3), .int so3])), (av 2, .inr (4, [.int hs2, .int nu2, .int ss2])), (av 3, .inr (4, [.int hs3, .int nu3, .int ss3]))]) rfl ?_
                        refine s_goto (tgt := 118) B dX8_shelf_109 rfl ?_
                        refine s_iconst B dX8_shelf_118 ic_1 ?_
                        refine s_iret B hQ hr dX8_shelf_119 rfl ?_
                        exact ⟨hs0, nu0, ss0, 1, (nI ln3), so3, hs2, nu2, ss2, hs3, nu3, ss3, (shA_1y h4 h35 (by assumption)), (mHo_ne (by decide)), (mNu_ne (by decide)), (mSs_ne (by decide)), (mHo_1 h35 (by rw [show (nI 3).toNatClampNeg = 3 from by decide]; exact h83)), (mNu_1 h35 (by rw [show (nI 3).toNatClampNeg = 3 from by decide]; exact h83) (by rw [show (nI 3).toNatClampNeg = 3 from by decide]; rfl)), (mSs_1 h35 (by rw [show (nI 3).toNatClampNeg = 3 from by decide]; exact h83) (by rw [show (nI 3).toNatClampNeg = 3 from by decide]; rfl)), (mHo_ne (by decide)), (mNu_ne (by decide)), (mSs_ne (by decide)), (mHo_ne (by decide)), (mNu_ne (by decide)), (mSs_ne (by decide)), rfl⟩
                · exact absurd h56 h19
              · refine s_aldqN B 23 4 rfl rfl dX8_shelf_52 (by omega) (by decide) rfl ?_
                refine s_astore (lv' := [(4, _), (0, _), (1, _), (2, _), (3, _)]) B dX8_shelf_53 (Nat.le_of_ble_eq_true rfl) rfl ?_
                refine s_iload_n B dX8_shelf_55 rfl 3 rfl ?_
                refine s_if_ne (tgt := 68) B dX8_shelf_56 rfl (fun h56 => ?_) (fun h56 => ?_)
                · refine s_iload_n B dX8_shelf_68 rfl 3 rfl ?_
                  refine s_iconst B dX8_shelf_69 ic_1 ?_
                  refine s_icmp_ne (tgt := 112) B dX8_shelf_70 rfl (fun h70 => ?_) (fun h70 => ?_)
                  · exact absurd h35 h70
                  · refine s_aload_n B dX8_shelf_73 rfl 1 rfl ?_
                    refine s_get (T := TX8) B inX8 0 rfl rfl 6 (Nat.le_of_ble_eq_true rfl) fl_X8_46 rfl rfl dX8_shelf_74 ?_
                    refine s_iload_n B dX8_shelf_77 rfl 4 rfl ?_
                    rcases (show k_7 = 0 ∨ k_7 = 1 ∨ k_7 = 2 ∨ k_7 = 3 from by omega) with rfl | rfl | rfl | rfl
                    · refine s_aldqN B 14 3 rfl rfl dX8_shelf_78 (by omega) (by decide) rfl ?_
                      refine s_get (T := TX3) B inX3 15 rfl rfl 0 (Nat.le_of_ble_eq_true rfl) fl_X8_237 rfl rfl dX8_shelf_79 ?_
                      refine s_iconst B dX8_shelf_82 ic_m1 ?_
                      refine s_icmp_eq (tgt := 112) B dX8_shelf_83 rfl (fun h83 => ?_) (fun h83 => ?_)
                      · refine s_aload B dX8_shelf_112 0 rfl ?_
                        refine s_iconst B dX8_shelf_114 ic_2 ?_
                        refine s_put (T := TX4) (ws' := [_, _, _, _, _, _, _, _, _, _, _, _, _, _, _, _, _, _, _, _, _, _, _, _, _, _, _, _]) B inX4 tyX4_ok nmX4 26 rfl rfl 0 (Nat.le_of_ble_eq_true rfl) fl_X8_260 rfl rfl rfl rfl (Nat.le_of_ble_eq_true rfl) rfl dX8_shelf_115 ?_
                        refine s_iconst B dX8_shelf_118 ic_1 ?_
                        refine s_iret B hQ hr dX8_shelf_119 rfl ?_
                        exact ⟨hs0, nu0, ss0, hs1, nu1, ss1, 2, nu2, ss2, hs3, nu3, ss3, (shA_1y h4 h35 (by assumption)), (mHo_ne (by decide)), (mNu_ne (by decide)), (mSs_ne (by decide)), (mHo_ne (by decide)), (mNu_ne (by decide)), (mSs_ne (by decide)), (mHo_2 h19 (fun _ => (by rw [show (nI 0).toNatClampNeg = 0 from by decide]; exact h83))), (mNu_2 h19 (fun _ => (by rw [show (nI 0).toNatClampNeg = 0 from by decide]; exact h83))), (mSs_2 (fun _ => (by rw [show (nI 0).toNatClampNeg = 0 from by decide]; exact h83))), (mHo_ne (by decide)), (mNu_ne (by decide)), (mSs_ne (by decide)), rfl⟩
                      · refine s_aload B dX8_shelf_86 0 rfl ?_
                        refine s_aload_n B dX8_shelf_88 rfl 1 rfl ?_
                        refine s_get (T := TX8) B inX8 0 rfl rfl 6 (Nat.le_of_ble_eq_true rfl) fl_X8_46 rfl rfl dX8_shelf_89 ?_
                        refine s_iload_n B dX8_shelf_92 rfl 4 rfl ?_
                        refine s_aldqN B 14 3 rfl rfl dX8_shelf_93 (by omega) (by decide) rfl ?_
                        refine s_get (T := TX3) B inX3 15 rfl rfl 0 (Nat.le_of_ble_eq_true rfl) fl_X8_237 rfl rfl dX8_shelf_94 ?_
                        refine s_aload_n B dX8_shelf_97 rfl 1 rfl ?_
                        refine s_get (T := TX8) B inX8 0 rfl rfl 6 (Nat.le_of_ble_eq_true rfl) fl_X8_46 rfl rfl dX8_shelf_98 ?_
                        refine s_iload_n B dX8_shelf_101 rfl 4 rfl ?_
                        refine s_aldqN B 14 3 rfl rfl dX8_shelf_102 (by omega) (by decide) rfl ?_
                        refine s_get (T := TX3) B inX3 15 rfl rfl 1 (Nat.le_of_ble_eq_true rfl) fl_X8_226 rfl rfl dX8_shelf_103 ?_
                        refine s_callVv B hsc (c_X4_holdRow l D g (av 2) hs2 nu2 ss2 so0 (nI ln0)) (gw_V ml_X8_257 im_yX4_holdRow se_yX4_holdRow ini_RX4 co_yX4_holdRow) hd_X4_holdRow rfl rfl ⟨(Nat.le_of_ble_eq_true rfl), (Nat.le_of_ble_eq_true rfl)⟩ [26] [0, 1, 2, 3, 4] rfl rfl rfl (ci := 4) (q0 := 0) rfl rfl rfl rfl rfl (Nat.le_of_ble_eq_true rfl) dX8_shelf_106 (fun u_30 hpo => ?_)
                        subst hpo
                        refine s_ws (ws' := [(bo, .inr (8, [.ref (an 0), .ref (ak 0), .int ik, .ref (bT), .ref (hT), .ref (ar 0), .ref bS, .ref bV, .ref (th 0)])), (an 0, .inr (2, [.ref (an 1), .ref (an 2), .ref (an 3), .ref (an 4), .ref (an 5), .ref (an 6), .ref (an 7), .int (nI n), .ref (an 8), .ref (an 9), .ref (an 10), .ref (an 11), .int (nI td), .int z, .ref (an 12)])), (an 1, .inl (g 0, 8, .inl kd)), (an 2, .inl (g 0, 8, .inl ka)), (an 3, .inl (g 0, 8, .inl ho)), (an 4, .inl (g 0, 8, .inl fa)), (an 5, .inl (g 0, 8, .inl si)), (an 6, .inl (g 0, 8, .inl kn)), (an 7, .inl (g 0, 8, .inl aw)), (an 8, .inl (g 0, 40, .inl ev)), (an 9, .inl (g 0, 40, .inl cr)), (an 10, .inl (g 0, 40, .inl tr)), (an 11, .inl (g 0, 4, .inl lw)), (an 12, .inr (0, [.int (q 0), .int (q 1), .int (q 2), .int (q 3), .int (q 4), .int (q 5), .int (q 6), .int (q 7), .int (q 8)])), (bS, .inl (g 3, 4, .inr (.inr (.inr (.inr (fun j => some (as (2 * j)))))))), (as 0, .inr (3, [.int so0, .int (nI ln0), .ref (as 1)])), (as 1, .inl (g 2, 40, .inr (.inl it0))), (as 2, .inr (3, [.int so1, .int (nI ln1), .ref (as 3)])), (as 3, .inl (g 2, 40, .inr (.inl it1))), (as 4, .inr (3, [.int so2, .int (nI ln2), .ref (as 5)])), (as 5, .inl (g 2, 40, .inr (.inl it2))), (as 6, .inr (3, [.int so3, .int (nI ln3), .ref (as 7)])), (as 7, .inl (g 2, 40, .inr (.inl it3))), (bV, .inl (g 4, 4, .inr (.inr (.inr (.inr (fun j => some (av j))))))), (av 0, .inr (4, [.int hs0, .int nu0, .int ss0])), (av 1, .inr (4, [.int hs1, .int nu1, .int ss1])), (av 2, .inr (4, [.int 1, .int (nI ln0), .int so0])), (av 3, .inr (4, [.int hs3, .int nu3, .int ss3]))]) rfl ?_
                        refine s_goto (tgt := 118) B dX8_shelf_109 rfl ?_
                        refine s_iconst B dX8_shelf_118 ic_1 ?_
                        refine s_iret B hQ hr dX8_shelf_119 rfl ?_
                        exact ⟨hs0, nu0, ss0, hs1, nu1, ss1, 1, (nI ln0), so0, hs3, nu3, ss3, (shA_1y h4 h35 (by assumption)), (mHo_ne (by decide)), (mNu_ne (by decide)), (mSs_ne (by decide)), (mHo_ne (by decide)), (mNu_ne (by decide)), (mSs_ne (by decide)), (mHo_1 h35 (by rw [show (nI 0).toNatClampNeg = 0 from by decide]; exact h83)), (mNu_1 h35 (by rw [show (nI 0).toNatClampNeg = 0 from by decide]; exact h83) (by rw [show (nI 0).toNatClampNeg = 0 from by decide]; rfl)), (mSs_1 h35 (by rw [show (nI 0).toNatClampNeg = 0 from by decide]; exact h83) (by rw [show (nI 0).toNatClampNeg = 0 from by decide]; rfl)), (mHo_ne (by decide)), (mNu_ne (by decide)), (mSs_ne (by decide)), rfl⟩
                    · refine s_aldqN B 14 3 rfl rfl dX8_shelf_78 (by omega) (by decide) rfl ?_
                      refine s_get (T := TX3) B inX3 17 rfl rfl 0 (Nat.le_of_ble_eq_true rfl) fl_X8_237 rfl rfl dX8_shelf_79 ?_
                      refine s_iconst B dX8_shelf_82 ic_m1 ?_
                      refine s_icmp_eq (tgt := 112) B dX8_shelf_83 rfl (fun h83 => ?_) (fun h83 => ?_)
                      · refine s_aload B dX8_shelf_112 0 rfl ?_
                        refine s_iconst B dX8_shelf_114 ic_2 ?_
                        refine s_put (T := TX4) (ws' := [_, _, _, _, _, _, _, _, _, _, _, _, _, _, _, _, _, _, _, _, _, _, _, _, _, _, _, _]) B inX4 tyX4_ok nmX4 26 rfl rfl 0 (Nat.le_of_ble_eq_true rfl) fl_X8_260 rfl rfl rfl rfl (Nat.le_of_ble_eq_true rfl) rfl dX8_shelf_115 ?_
                        refine s_iconst B dX8_shelf_118 ic_1 ?_
                        refine s_iret B hQ hr dX8_shelf_119 rfl ?_
                        exact ⟨hs0, nu0, ss0, hs1, nu1, ss1, 2, nu2, ss2, hs3, nu3, ss3, (shA_1y h4 h35 (by assumption)), (mHo_ne (by decide)), (mNu_ne (by decide)), (mSs_ne (by decide)), (mHo_ne (by decide)), (mNu_ne (by decide)), (mSs_ne (by decide)), (mHo_2 h19 (fun _ => (by rw [show (nI 1).toNatClampNeg = 1 from by decide]; exact h83))), (mNu_2 h19 (fun _ => (by rw [show (nI 1).toNatClampNeg = 1 from by decide]; exact h83))), (mSs_2 (fun _ => (by rw [show (nI 1).toNatClampNeg = 1 from by decide]; exact h83))), (mHo_ne (by decide)), (mNu_ne (by decide)), (mSs_ne (by decide)), rfl⟩
                      · refine s_aload B dX8_shelf_86 0 rfl ?_
                        refine s_aload_n B dX8_shelf_88 rfl 1 rfl ?_
                        refine s_get (T := TX8) B inX8 0 rfl rfl 6 (Nat.le_of_ble_eq_true rfl) fl_X8_46 rfl rfl dX8_shelf_89 ?_
                        refine s_iload_n B dX8_shelf_92 rfl 4 rfl ?_
                        refine s_aldqN B 14 3 rfl rfl dX8_shelf_93 (by omega) (by decide) rfl ?_
                        refine s_get (T := TX3) B inX3 17 rfl rfl 0 (Nat.le_of_ble_eq_true rfl) fl_X8_237 rfl rfl dX8_shelf_94 ?_
                        refine s_aload_n B dX8_shelf_97 rfl 1 rfl ?_
                        refine s_get (T := TX8) B inX8 0 rfl rfl 6 (Nat.le_of_ble_eq_true rfl) fl_X8_46 rfl rfl dX8_shelf_98 ?_
                        refine s_iload_n B dX8_shelf_101 rfl 4 rfl ?_
                        refine s_aldqN B 14 3 rfl rfl dX8_shelf_102 (by omega) (by decide) rfl ?_
                        refine s_get (T := TX3) B inX3 17 rfl rfl 1 (Nat.le_of_ble_eq_true rfl) fl_X8_226 rfl rfl dX8_shelf_103 ?_
                        refine s_callVv B hsc (c_X4_holdRow l D g (av 2) hs2 nu2 ss2 so1 (nI ln1)) (gw_V ml_X8_257 im_yX4_holdRow se_yX4_holdRow ini_RX4 co_yX4_holdRow) hd_X4_holdRow rfl rfl ⟨(Nat.le_of_ble_eq_true rfl), (Nat.le_of_ble_eq_true rfl)⟩ [26] [0, 1, 2, 3, 4] rfl rfl rfl (ci := 4) (q0 := 0) rfl rfl rfl rfl rfl (Nat.le_of_ble_eq_true rfl) dX8_shelf_106 (fun u_32 hpo => ?_)
                        subst hpo
                        refine s_ws (ws' := [(bo, .inr (8, [.ref (an 0), .ref (ak 0), .int ik, .ref (bT), .ref (hT), .ref (ar 0), .ref bS, .ref bV, .ref (th 0)])), (an 0, .inr (2, [.ref (an 1), .ref (an 2), .ref (an 3), .ref (an 4), .ref (an 5), .ref (an 6), .ref (an 7), .int (nI n), .ref (an 8), .ref (an 9), .ref (an 10), .ref (an 11), .int (nI td), .int z, .ref (an 12)])), (an 1, .inl (g 0, 8, .inl kd)), (an 2, .inl (g 0, 8, .inl ka)), (an 3, .inl (g 0, 8, .inl ho)), (an 4, .inl (g 0, 8, .inl fa)), (an 5, .inl (g 0, 8, .inl si)), (an 6, .inl (g 0, 8, .inl kn)), (an 7, .inl (g 0, 8, .inl aw)), (an 8, .inl (g 0, 40, .inl ev)), (an 9, .inl (g 0, 40, .inl cr)), (an 10, .inl (g 0, 40, .inl tr)), (an 11, .inl (g 0, 4, .inl lw)), (an 12, .inr (0, [.int (q 0), .int (q 1), .int (q 2), .int (q 3), .int (q 4), .int (q 5), .int (q 6), .int (q 7), .int (q 8)])), (bS, .inl (g 3, 4, .inr (.inr (.inr (.inr (fun j => some (as (2 * j)))))))), (as 0, .inr (3, [.int so0, .int (nI ln0), .ref (as 1)])), (as 1, .inl (g 2, 40, .inr (.inl it0))), (as 2, .inr (3, [.int so1, .int (nI ln1), .ref (as 3)])), (as 3, .inl (g 2, 40, .inr (.inl it1))), (as 4, .inr (3, [.int so2, .int (nI ln2), .ref (as 5)])), (as 5, .inl (g 2, 40, .inr (.inl it2))), (as 6, .inr (3, [.int so3, .int (nI ln3), .ref (as 7)])), (as 7, .inl (g 2, 40, .inr (.inl it3))), (bV, .inl (g 4, 4, .inr (.inr (.inr (.inr (fun j => some (av j))))))), (av 0, .inr (4, [.int hs0, .int nu0, .int ss0])), (av 1, .inr (4, [.int hs1, .int nu1, .int ss1])), (av 2, .inr (4, [.int 1, .int (nI ln1), .int so1])), (av 3, .inr (4, [.int hs3, .int nu3, .int ss3]))]) rfl ?_
                        refine s_goto (tgt := 118) B dX8_shelf_109 rfl ?_
                        refine s_iconst B dX8_shelf_118 ic_1 ?_
                        refine s_iret B hQ hr dX8_shelf_119 rfl ?_
                        exact ⟨hs0, nu0, ss0, hs1, nu1, ss1, 1, (nI ln1), so1, hs3, nu3, ss3, (shA_1y h4 h35 (by assumption)), (mHo_ne (by decide)), (mNu_ne (by decide)), (mSs_ne (by decide)), (mHo_ne (by decide)), (mNu_ne (by decide)), (mSs_ne (by decide)), (mHo_1 h35 (by rw [show (nI 1).toNatClampNeg = 1 from by decide]; exact h83)), (mNu_1 h35 (by rw [show (nI 1).toNatClampNeg = 1 from by decide]; exact h83) (by rw [show (nI 1).toNatClampNeg = 1 from by decide]; rfl)), (mSs_1 h35 (by rw [show (nI 1).toNatClampNeg = 1 from by decide]; exact h83) (by rw [show (nI 1).toNatClampNeg = 1 from by decide]; rfl)), (mHo_ne (by decide)), (mNu_ne (by decide)), (mSs_ne (by decide)), rfl⟩
                    · refine s_aldqN B 14 3 rfl rfl dX8_shelf_78 (by omega) (by decide) rfl ?_
                      refine s_get (T := TX3) B inX3 19 rfl rfl 0 (Nat.le_of_ble_eq_true rfl) fl_X8_237 rfl rfl dX8_shelf_79 ?_
                      refine s_iconst B dX8_shelf_82 ic_m1 ?_
                      refine s_icmp_eq (tgt := 112) B dX8_shelf_83 rfl (fun h83 => ?_) (fun h83 => ?_)
                      · refine s_aload B dX8_shelf_112 0 rfl ?_
                        refine s_iconst B dX8_shelf_114 ic_2 ?_
                        refine s_put (T := TX4) (ws' := [_, _, _, _, _, _, _, _, _, _, _, _, _, _, _, _, _, _, _, _, _, _, _, _, _, _, _, _]) B inX4 tyX4_ok nmX4 26 rfl rfl 0 (Nat.le_of_ble_eq_true rfl) fl_X8_260 rfl rfl rfl rfl (Nat.le_of_ble_eq_true rfl) rfl dX8_shelf_115 ?_
                        refine s_iconst B dX8_shelf_118 ic_1 ?_
                        refine s_iret B hQ hr dX8_shelf_119 rfl ?_
                        exact ⟨hs0, nu0, ss0, hs1, nu1, ss1, 2, nu2, ss2, hs3, nu3, ss3, (shA_1y h4 h35 (by assumption)), (mHo_ne (by decide)), (mNu_ne (by decide)), (mSs_ne (by decide)), (mHo_ne (by decide)), (mNu_ne (by decide)), (mSs_ne (by decide)), (mHo_2 h19 (fun _ => (by rw [show (nI 2).toNatClampNeg = 2 from by decide]; exact h83))), (mNu_2 h19 (fun _ => (by rw [show (nI 2).toNatClampNeg = 2 from by decide]; exact h83))), (mSs_2 (fun _ => (by rw [show (nI 2).toNatClampNeg = 2 from by decide]; exact h83))), (mHo_ne (by decide)), (mNu_ne (by decide)), (mSs_ne (by decide)), rfl⟩
                      · refine s_aload B dX8_shelf_86 0 rfl ?_
                        refine s_aload_n B dX8_shelf_88 rfl 1 rfl ?_
                        refine s_get (T := TX8) B inX8 0 rfl rfl 6 (Nat.le_of_ble_eq_true rfl) fl_X8_46 rfl rfl dX8_shelf_89 ?_
                        refine s_iload_n B dX8_shelf_92 rfl 4 rfl ?_
                        refine s_aldqN B 14 3 rfl rfl dX8_shelf_93 (by omega) (by decide) rfl ?_
                        refine s_get (T := TX3) B inX3 19 rfl rfl 0 (Nat.le_of_ble_eq_true rfl) fl_X8_237 rfl rfl dX8_shelf_94 ?_
                        refine s_aload_n B dX8_shelf_97 rfl 1 rfl ?_
                        refine s_get (T := TX8) B inX8 0 rfl rfl 6 (Nat.le_of_ble_eq_true rfl) fl_X8_46 rfl rfl dX8_shelf_98 ?_
                        refine s_iload_n B dX8_shelf_101 rfl 4 rfl ?_
                        refine s_aldqN B 14 3 rfl rfl dX8_shelf_102 (by omega) (by decide) rfl ?_
                        refine s_get (T := TX3) B inX3 19 rfl rfl 1 (Nat.le_of_ble_eq_true rfl) fl_X8_226 rfl rfl dX8_shelf_103 ?_
                        refine s_callVv B hsc (c_X4_holdRow l D g (av 2) hs2 nu2 ss2 so2 (nI ln2)) (gw_V ml_X8_257 im_yX4_holdRow se_yX4_holdRow ini_RX4 co_yX4_holdRow) hd_X4_holdRow rfl rfl ⟨(Nat.le_of_ble_eq_true rfl), (Nat.le_of_ble_eq_true rfl)⟩ [26] [0, 1, 2, 3, 4] rfl rfl rfl (ci := 4) (q0 := 0) rfl rfl rfl rfl rfl (Nat.le_of_ble_eq_true rfl) dX8_shelf_106 (fun u_34 hpo => ?_)
                        subst hpo
                        refine s_ws (ws' := [(bo, .inr (8, [.ref (an 0), .ref (ak 0), .int ik, .ref (bT), .ref (hT), .ref (ar 0), .ref bS, .ref bV, .ref (th 0)])), (an 0, .inr (2, [.ref (an 1), .ref (an 2), .ref (an 3), .ref (an 4), .ref (an 5), .ref (an 6), .ref (an 7), .int (nI n), .ref (an 8), .ref (an 9), .ref (an 10), .ref (an 11), .int (nI td), .int z, .ref (an 12)])), (an 1, .inl (g 0, 8, .inl kd)), (an 2, .inl (g 0, 8, .inl ka)), (an 3, .inl (g 0, 8, .inl ho)), (an 4, .inl (g 0, 8, .inl fa)), (an 5, .inl (g 0, 8, .inl si)), (an 6, .inl (g 0, 8, .inl kn)), (an 7, .inl (g 0, 8, .inl aw)), (an 8, .inl (g 0, 40, .inl ev)), (an 9, .inl (g 0, 40, .inl cr)), (an 10, .inl (g 0, 40, .inl tr)), (an 11, .inl (g 0, 4, .inl lw)), (an 12, .inr (0, [.int (q 0), .int (q 1), .int (q 2), .int (q 3), .int (q 4), .int (q 5), .int (q 6), .int (q 7), .int (q 8)])), (bS, .inl (g 3, 4, .inr (.inr (.inr (.inr (fun j => some (as (2 * j)))))))), (as 0, .inr (3, [.int so0, .int (nI ln0), .ref (as 1)])), (as 1, .inl (g 2, 40, .inr (.inl it0))), (as 2, .inr (3, [.int so1, .int (nI ln1), .ref (as 3)])), (as 3, .inl (g 2, 40, .inr (.inl it1))), (as 4, .inr (3, [.int so2, .int (nI ln2), .ref (as 5)])), (as 5, .inl (g 2, 40, .inr (.inl it2))), (as 6, .inr (3, [.int so3, .int (nI ln3), .ref (as 7)])), (as 7, .inl (g 2, 40, .inr (.inl it3))), (bV, .inl (g 4, 4, .inr (.inr (.inr (.inr (fun j => some (av j))))))), (av 0, .inr (4, [.int hs0, .int nu0, .int ss0])), (av 1, .inr (4, [.int hs1, .int nu1, .int ss1])), (av 2, .inr (4, [.int 1, .int (nI ln2), .int so2])), (av 3, .inr (4, [.int hs3, .int nu3, .int ss3]))]) rfl ?_
                        refine s_goto (tgt := 118) B dX8_shelf_109 rfl ?_
                        refine s_iconst B dX8_shelf_118 ic_1 ?_
                        refine s_iret B hQ hr dX8_shelf_119 rfl ?_
                        exact ⟨hs0, nu0, ss0, hs1, nu1, ss1, 1, (nI ln2), so2, hs3, nu3, ss3, (shA_1y h4 h35 (by assumption)), (mHo_ne (by decide)), (mNu_ne (by decide)), (mSs_ne (by decide)), (mHo_ne (by decide)), (mNu_ne (by decide)), (mSs_ne (by decide)), (mHo_1 h35 (by rw [show (nI 2).toNatClampNeg = 2 from by decide]; exact h83)), (mNu_1 h35 (by rw [show (nI 2).toNatClampNeg = 2 from by decide]; exact h83) (by rw [show (nI 2).toNatClampNeg = 2 from by decide]; rfl)), (mSs_1 h35 (by rw [show (nI 2).toNatClampNeg = 2 from by decide]; exact h83) (by rw [show (nI 2).toNatClampNeg = 2 from by decide]; rfl)), (mHo_ne (by decide)), (mNu_ne (by decide)), (mSs_ne (by decide)), rfl⟩
                    · refine s_aldqN B 14 3 rfl rfl dX8_shelf_78 (by omega) (by decide) rfl ?_
                      refine s_get (T := TX3) B inX3 21 rfl rfl 0 (Nat.le_of_ble_eq_true rfl) fl_X8_237 rfl rfl dX8_shelf_79 ?_
                      refine s_iconst B dX8_shelf_82 ic_m1 ?_
                      refine s_icmp_eq (tgt := 112) B dX8_shelf_83 rfl (fun h83 => ?_) (fun h83 => ?_)
                      · refine s_aload B dX8_shelf_112 0 rfl ?_
                        refine s_iconst B dX8_shelf_114 ic_2 ?_
                        refine s_put (T := TX4) (ws' := [_, _, _, _, _, _, _, _, _, _, _, _, _, _, _, _, _, _, _, _, _, _, _, _, _, _, _, _]) B inX4 tyX4_ok nmX4 26 rfl rfl 0 (Nat.le_of_ble_eq_true rfl) fl_X8_260 rfl rfl rfl rfl (Nat.le_of_ble_eq_true rfl) rfl dX8_shelf_115 ?_
                        refine s_iconst B dX8_shelf_118 ic_1 ?_
                        refine s_iret B hQ hr dX8_shelf_119 rfl ?_
                        exact ⟨hs0, nu0, ss0, hs1, nu1, ss1, 2, nu2, ss2, hs3, nu3, ss3, (shA_1y h4 h35 (by assumption)), (mHo_ne (by decide)), (mNu_ne (by decide)), (mSs_ne (by decide)), (mHo_ne (by decide)), (mNu_ne (by decide)), (mSs_ne (by decide)), (mHo_2 h19 (fun _ => (by rw [show (nI 3).toNatClampNeg = 3 from by decide]; exact h83))), (mNu_2 h19 (fun _ => (by rw [show (nI 3).toNatClampNeg = 3 from by decide]; exact h83))), (mSs_2 (fun _ => (by rw [show (nI 3).toNatClampNeg = 3 from by decide]; exact h83))), (mHo_ne (by decide)), (mNu_ne (by decide)), (mSs_ne (by decide)), rfl⟩
                      · refine s_aload B dX8_shelf_86 0 rfl ?_
                        refine s_aload_n B dX8_shelf_88 rfl 1 rfl ?_
                        refine s_get (T := TX8) B inX8 0 rfl rfl 6 (Nat.le_of_ble_eq_true rfl) fl_X8_46 rfl rfl dX8_shelf_89 ?_
                        refine s_iload_n B dX8_shelf_92 rfl 4 rfl ?_
                        refine s_aldqN B 14 3 rfl rfl dX8_shelf_93 (by omega) (by decide) rfl ?_
                        refine s_get (T := TX3) B inX3 21 rfl rfl 0 (Nat.le_of_ble_eq_true rfl) fl_X8_237 rfl rfl dX8_shelf_94 ?_
                        refine s_aload_n B dX8_shelf_97 rfl 1 rfl ?_
                        refine s_get (T := TX8) B inX8 0 rfl rfl 6 (Nat.le_of_ble_eq_true rfl) fl_X8_46 rfl rfl dX8_shelf_98 ?_
                        refine s_iload_n B dX8_shelf_101 rfl 4 rfl ?_
                        refine s_aldqN B 14 3 rfl rfl dX8_shelf_102 (by omega) (by decide) rfl ?_
                        refine s_get (T := TX3) B inX3 21 rfl rfl 1 (Nat.le_of_ble_eq_true rfl) fl_X8_226 rfl rfl dX8_shelf_103 ?_
                        refine s_callVv B hsc (c_X4_holdRow l D g (av 2) hs2 nu2 ss2 so3 (nI ln3)) (gw_V ml_X8_257 im_yX4_holdRow se_yX4_holdRow ini_RX4 co_yX4_holdRow) hd_X4_holdRow rfl rfl ⟨(Nat.le_of_ble_eq_true rfl), (Nat.le_of_ble_eq_true rfl)⟩ [26] [0, 1, 2, 3, 4] rfl rfl rfl (ci := 4) (q0 := 0) rfl rfl rfl rfl rfl (Nat.le_of_ble_eq_true rfl) dX8_shelf_106 (fun u_36 hpo => ?_)
                        subst hpo
                        refine s_ws (ws' := [(bo, .inr (8, [.ref (an 0), .ref (ak 0), .int ik, .ref (bT), .ref (hT), .ref (ar 0), .ref bS, .ref bV, .ref (th 0)])), (an 0, .inr (2, [.ref (an 1), .ref (an 2), .ref (an 3), .ref (an 4), .ref (an 5), .ref (an 6), .ref (an 7), .int (nI n), .ref (an 8), .ref (an 9), .ref (an 10), .ref (an 11), .int (nI td), .int z, .ref (an 12)])), (an 1, .inl (g 0, 8, .inl kd)), (an 2, .inl (g 0, 8, .inl ka)), (an 3, .inl (g 0, 8, .inl ho)), (an 4, .inl (g 0, 8, .inl fa)), (an 5, .inl (g 0, 8, .inl si)), (an 6, .inl (g 0, 8, .inl kn)), (an 7, .inl (g 0, 8, .inl aw)), (an 8, .inl (g 0, 40, .inl ev)), (an 9, .inl (g 0, 40, .inl cr)), (an 10, .inl (g 0, 40, .inl tr)), (an 11, .inl (g 0, 4, .inl lw)), (an 12, .inr (0, [.int (q 0), .int (q 1), .int (q 2), .int (q 3), .int (q 4), .int (q 5), .int (q 6), .int (q 7), .int (q 8)])), (bS, .inl (g 3, 4, .inr (.inr (.inr (.inr (fun j => some (as (2 * j)))))))), (as 0, .inr (3, [.int so0, .int (nI ln0), .ref (as 1)])), (as 1, .inl (g 2, 40, .inr (.inl it0))), (as 2, .inr (3, [.int so1, .int (nI ln1), .ref (as 3)])), (as 3, .inl (g 2, 40, .inr (.inl it1))), (as 4, .inr (3, [.int so2, .int (nI ln2), .ref (as 5)])), (as 5, .inl (g 2, 40, .inr (.inl it2))), (as 6, .inr (3, [.int so3, .int (nI ln3), .ref (as 7)])), (as 7, .inl (g 2, 40, .inr (.inl it3))), (bV, .inl (g 4, 4, .inr (.inr (.inr (.inr (fun j => some (av j))))))), (av 0, .inr (4, [.int hs0, .int nu0, .int ss0])), (av 1, .inr (4, [.int hs1, .int nu1, .int ss1])), (av 2, .inr (4, [.int 1, .int (nI ln3), .int so3])), (av 3, .inr (4, [.int hs3, .int nu3, .int ss3]))]) rfl ?_
                        refine s_goto (tgt := 118) B dX8_shelf_109 rfl ?_
                        refine s_iconst B dX8_shelf_118 ic_1 ?_
                        refine s_iret B hQ hr dX8_shelf_119 rfl ?_
                        exact ⟨hs0, nu0, ss0, hs1, nu1, ss1, 1, (nI ln3), so3, hs3, nu3, ss3, (shA_1y h4 h35 (by assumption)), (mHo_ne (by decide)), (mNu_ne (by decide)), (mSs_ne (by decide)), (mHo_ne (by decide)), (mNu_ne (by decide)), (mSs_ne (by decide)), (mHo_1 h35 (by rw [show (nI 3).toNatClampNeg = 3 from by decide]; exact h83)), (mNu_1 h35 (by rw [show (nI 3).toNatClampNeg = 3 from by decide]; exact h83) (by rw [show (nI 3).toNatClampNeg = 3 from by decide]; rfl)), (mSs_1 h35 (by rw [show (nI 3).toNatClampNeg = 3 from by decide]; exact h83) (by rw [show (nI 3).toNatClampNeg = 3 from by decide]; rfl)), (mHo_ne (by decide)), (mNu_ne (by decide)), (mSs_ne (by decide)), rfl⟩
                · exact absurd h56 h19
              · refine s_aldqN B 23 4 rfl rfl dX8_shelf_52 (by omega) (by decide) rfl ?_
                refine s_astore (lv' := [(4, _), (0, _), (1, _), (2, _), (3, _)]) B dX8_shelf_53 (Nat.le_of_ble_eq_true rfl) rfl ?_
                refine s_iload_n B dX8_shelf_55 rfl 3 rfl ?_
                refine s_if_ne (tgt := 68) B dX8_shelf_56 rfl (fun h56 => ?_) (fun h56 => ?_)
                · refine s_iload_n B dX8_shelf_68 rfl 3 rfl ?_
                  refine s_iconst B dX8_shelf_69 ic_1 ?_
                  refine s_icmp_ne (tgt := 112) B dX8_shelf_70 rfl (fun h70 => ?_) (fun h70 => ?_)
                  · exact absurd h35 h70
                  · refine s_aload_n B dX8_shelf_73 rfl 1 rfl ?_
                    refine s_get (T := TX8) B inX8 0 rfl rfl 6 (Nat.le_of_ble_eq_true rfl) fl_X8_46 rfl rfl dX8_shelf_74 ?_
                    refine s_iload_n B dX8_shelf_77 rfl 4 rfl ?_
                    rcases (show k_7 = 0 ∨ k_7 = 1 ∨ k_7 = 2 ∨ k_7 = 3 from by omega) with rfl | rfl | rfl | rfl
                    · refine s_aldqN B 14 3 rfl rfl dX8_shelf_78 (by omega) (by decide) rfl ?_
                      refine s_get (T := TX3) B inX3 15 rfl rfl 0 (Nat.le_of_ble_eq_true rfl) fl_X8_237 rfl rfl dX8_shelf_79 ?_
                      refine s_iconst B dX8_shelf_82 ic_m1 ?_
                      refine s_icmp_eq (tgt := 112) B dX8_shelf_83 rfl (fun h83 => ?_) (fun h83 => ?_)
                      · refine s_aload B dX8_shelf_112 0 rfl ?_
                        refine s_iconst B dX8_shelf_114 ic_2 ?_
                        refine s_put (T := TX4) (ws' := [_, _, _, _, _, _, _, _, _, _, _, _, _, _, _, _, _, _, _, _, _, _, _, _, _, _, _, _]) B inX4 tyX4_ok nmX4 27 rfl rfl 0 (Nat.le_of_ble_eq_true rfl) fl_X8_260 rfl rfl rfl rfl (Nat.le_of_ble_eq_true rfl) rfl dX8_shelf_115 ?_
                        refine s_iconst B dX8_shelf_118 ic_1 ?_
                        refine s_iret B hQ hr dX8_shelf_119 rfl ?_
                        exact ⟨hs0, nu0, ss0, hs1, nu1, ss1, hs2, nu2, ss2, 2, nu3, ss3, (shA_1y h4 h35 (by assumption)), (mHo_ne (by decide)), (mNu_ne (by decide)), (mSs_ne (by decide)), (mHo_ne (by decide)), (mNu_ne (by decide)), (mSs_ne (by decide)), (mHo_ne (by decide)), (mNu_ne (by decide)), (mSs_ne (by decide)), (mHo_2 h19 (fun _ => (by rw [show (nI 0).toNatClampNeg = 0 from by decide]; exact h83))), (mNu_2 h19 (fun _ => (by rw [show (nI 0).toNatClampNeg = 0 from by decide]; exact h83))), (mSs_2 (fun _ => (by rw [show (nI 0).toNatClampNeg = 0 from by decide]; exact h83))), rfl⟩
                      · refine s_aload B dX8_shelf_86 0 rfl ?_
                        refine s_aload_n B dX8_shelf_88 rfl 1 rfl ?_
                        refine s_get (T := TX8) B inX8 0 rfl rfl 6 (Nat.le_of_ble_eq_true rfl) fl_X8_46 rfl rfl dX8_shelf_89 ?_
                        refine s_iload_n B dX8_shelf_92 rfl 4 rfl ?_
                        refine s_aldqN B 14 3 rfl rfl dX8_shelf_93 (by omega) (by decide) rfl ?_
                        refine s_get (T := TX3) B inX3 15 rfl rfl 0 (Nat.le_of_ble_eq_true rfl) fl_X8_237 rfl rfl dX8_shelf_94 ?_
                        refine s_aload_n B dX8_shelf_97 rfl 1 rfl ?_
                        refine s_get (T := TX8) B inX8 0 rfl rfl 6 (Nat.le_of_ble_eq_true rfl) fl_X8_46 rfl rfl dX8_shelf_98 ?_
                        refine s_iload_n B dX8_shelf_101 rfl 4 rfl ?_
                        refine s_aldqN B 14 3 rfl rfl dX8_shelf_102 (by omega) (by decide) rfl ?_
                        refine s_get (T := TX3) B inX3 15 rfl rfl 1 (Nat.le_of_ble_eq_true rfl) fl_X8_226 rfl rfl dX8_shelf_103 ?_
                        refine s_callVv B hsc (c_X4_holdRow l D g (av 3) hs3 nu3 ss3 so0 (nI ln0)) (gw_V ml_X8_257 im_yX4_holdRow se_yX4_holdRow ini_RX4 co_yX4_holdRow) hd_X4_holdRow rfl rfl ⟨(Nat.le_of_ble_eq_true rfl), (Nat.le_of_ble_eq_true rfl)⟩ [27] [0, 1, 2, 3, 4] rfl rfl rfl (ci := 4) (q0 := 0) rfl rfl rfl rfl rfl (Nat.le_of_ble_eq_true rfl) dX8_shelf_106 (fun u_38 hpo => ?_)
                        subst hpo
                        refine s_ws (ws' := [(bo, .inr (8, [.ref (an 0), .ref (ak 0), .int ik, .ref (bT), .ref (hT), .ref (ar 0), .ref bS, .ref bV, .ref (th 0)])), (an 0, .inr (2, [.ref (an 1), .ref (an 2), .ref (an 3), .ref (an 4), .ref (an 5), .ref (an 6), .ref (an 7), .int (nI n), .ref (an 8), .ref (an 9), .ref (an 10), .ref (an 11), .int (nI td), .int z, .ref (an 12)])), (an 1, .inl (g 0, 8, .inl kd)), (an 2, .inl (g 0, 8, .inl ka)), (an 3, .inl (g 0, 8, .inl ho)), (an 4, .inl (g 0, 8, .inl fa)), (an 5, .inl (g 0, 8, .inl si)), (an 6, .inl (g 0, 8, .inl kn)), (an 7, .inl (g 0, 8, .inl aw)), (an 8, .inl (g 0, 40, .inl ev)), (an 9, .inl (g 0, 40, .inl cr)), (an 10, .inl (g 0, 40, .inl tr)), (an 11, .inl (g 0, 4, .inl lw)), (an 12, .inr (0, [.int (q 0), .int (q 1), .int (q 2), .int (q 3), .int (q 4), .int (q 5), .int (q 6), .int (q 7), .int (q 8)])), (bS, .inl (g 3, 4, .inr (.inr (.inr (.inr (fun j => some (as (2 * j)))))))), (as 0, .inr (3, [.int so0, .int (nI ln0), .ref (as 1)])), (as 1, .inl (g 2, 40, .inr (.inl it0))), (as 2, .inr (3, [.int so1, .int (nI ln1), .ref (as 3)])), (as 3, .inl (g 2, 40, .inr (.inl it1))), (as 4, .inr (3, [.int so2, .int (nI ln2), .ref (as 5)])), (as 5, .inl (g 2, 40, .inr (.inl it2))), (as 6, .inr (3, [.int so3, .int (nI ln3), .ref (as 7)])), (as 7, .inl (g 2, 40, .inr (.inl it3))), (bV, .inl (g 4, 4, .inr (.inr (.inr (.inr (fun j => some (av j))))))), (av 0, .inr (4, [.int hs0, .int nu0, .int ss0])), (av 1, .inr (4, [.int hs1, .int nu1, .int ss1])), (av 2, .inr (4, [.int hs2, .int nu2, .int ss2])), (av 3, .inr (4, [.int 1, .int (nI ln0), .int so0]))]) rfl ?_
                        refine s_goto (tgt := 118) B dX8_shelf_109 rfl ?_
                        refine s_iconst B dX8_shelf_118 ic_1 ?_
                        refine s_iret B hQ hr dX8_shelf_119 rfl ?_
                        exact ⟨hs0, nu0, ss0, hs1, nu1, ss1, hs2, nu2, ss2, 1, (nI ln0), so0, (shA_1y h4 h35 (by assumption)), (mHo_ne (by decide)), (mNu_ne (by decide)), (mSs_ne (by decide)), (mHo_ne (by decide)), (mNu_ne (by decide)), (mSs_ne (by decide)), (mHo_ne (by decide)), (mNu_ne (by decide)), (mSs_ne (by decide)), (mHo_1 h35 (by rw [show (nI 0).toNatClampNeg = 0 from by decide]; exact h83)), (mNu_1 h35 (by rw [show (nI 0).toNatClampNeg = 0 from by decide]; exact h83) (by rw [show (nI 0).toNatClampNeg = 0 from by decide]; rfl)), (mSs_1 h35 (by rw [show (nI 0).toNatClampNeg = 0 from by decide]; exact h83) (by rw [show (nI 0).toNatClampNeg = 0 from by decide]; rfl)), rfl⟩
                    · refine s_aldqN B 14 3 rfl rfl dX8_shelf_78 (by omega) (by decide) rfl ?_
                      refine s_get (T := TX3) B inX3 17 rfl rfl 0 (Nat.le_of_ble_eq_true rfl) fl_X8_237 rfl rfl dX8_shelf_79 ?_
                      refine s_iconst B dX8_shelf_82 ic_m1 ?_
                      refine s_icmp_eq (tgt := 112) B dX8_shelf_83 rfl (fun h83 => ?_) (fun h83 => ?_)
                      · refine s_aload B dX8_shelf_112 0 rfl ?_
                        refine s_iconst B dX8_shelf_114 ic_2 ?_
                        refine s_put (T := TX4) (ws' := [_, _, _, _, _, _, _, _, _, _, _, _, _, _, _, _, _, _, _, _, _, _, _, _, _, _, _, _]) B inX4 tyX4_ok nmX4 27 rfl rfl 0 (Nat.le_of_ble_eq_true rfl) fl_X8_260 rfl rfl rfl rfl (Nat.le_of_ble_eq_true rfl) rfl dX8_shelf_115 ?_
                        refine s_iconst B dX8_shelf_118 ic_1 ?_
                        refine s_iret B hQ hr dX8_shelf_119 rfl ?_
                        exact ⟨hs0, nu0, ss0, hs1, nu1, ss1, hs2, nu2, ss2, 2, nu3, ss3, (shA_1y h4 h35 (by assumption)), (mHo_ne (by decide)), (mNu_ne (by decide)), (mSs_ne (by decide)), (mHo_ne (by decide)), (mNu_ne (by decide)), (mSs_ne (by decide)), (mHo_ne (by decide)), (mNu_ne (by decide)), (mSs_ne (by decide)), (mHo_2 h19 (fun _ => (by rw [show (nI 1).toNatClampNeg = 1 from by decide]; exact h83))), (mNu_2 h19 (fun _ => (by rw [show (nI 1).toNatClampNeg = 1 from by decide]; exact h83))), (mSs_2 (fun _ => (by rw [show (nI 1).toNatClampNeg = 1 from by decide]; exact h83))), rfl⟩
                      · refine s_aload B dX8_shelf_86 0 rfl ?_
                        refine s_aload_n B dX8_shelf_88 rfl 1 rfl ?_
                        refine s_get (T := TX8) B inX8 0 rfl rfl 6 (Nat.le_of_ble_eq_true rfl) fl_X8_46 rfl rfl dX8_shelf_89 ?_
                        refine s_iload_n B dX8_shelf_92 rfl 4 rfl ?_
                        refine s_aldqN B 14 3 rfl rfl dX8_shelf_93 (by omega) (by decide) rfl ?_
                        refine s_get (T := TX3) B inX3 17 rfl rfl 0 (Nat.le_of_ble_eq_true rfl) fl_X8_237 rfl rfl dX8_shelf_94 ?_
                        refine s_aload_n B dX8_shelf_97 rfl 1 rfl ?_
                        refine s_get (T := TX8) B inX8 0 rfl rfl 6 (Nat.le_of_ble_eq_true rfl) fl_X8_46 rfl rfl dX8_shelf_98 ?_
                        refine s_iload_n B dX8_shelf_101 rfl 4 rfl ?_
                        refine s_aldqN B 14 3 rfl rfl dX8_shelf_102 (by omega) (by decide) rfl ?_
                        refine s_get (T := TX3) B inX3 17 rfl rfl 1 (Nat.le_of_ble_eq_true rfl) fl_X8_226 rfl rfl dX8_shelf_103 ?_
                        refine s_callVv B hsc (c_X4_holdRow l D g (av 3) hs3 nu3 ss3 so1 (nI ln1)) (gw_V ml_X8_257 im_yX4_holdRow se_yX4_holdRow ini_RX4 co_yX4_holdRow) hd_X4_holdRow rfl rfl ⟨(Nat.le_of_ble_eq_true rfl), (Nat.le_of_ble_eq_true rfl)⟩ [27] [0, 1, 2, 3, 4] rfl rfl rfl (ci := 4) (q0 := 0) rfl rfl rfl rfl rfl (Nat.le_of_ble_eq_true rfl) dX8_shelf_106 (fun u_40 hpo => ?_)
                        subst hpo
                        refine s_ws (ws' := [(bo, .inr (8, [.ref (an 0), .ref (ak 0), .int ik, .ref (bT), .ref (hT), .ref (ar 0), .ref bS, .ref bV, .ref (th 0)])), (an 0, .inr (2, [.ref (an 1), .ref (an 2), .ref (an 3), .ref (an 4), .ref (an 5), .ref (an 6), .ref (an 7), .int (nI n), .ref (an 8), .ref (an 9), .ref (an 10), .ref (an 11), .int (nI td), .int z, .ref (an 12)])), (an 1, .inl (g 0, 8, .inl kd)), (an 2, .inl (g 0, 8, .inl ka)), (an 3, .inl (g 0, 8, .inl ho)), (an 4, .inl (g 0, 8, .inl fa)), (an 5, .inl (g 0, 8, .inl si)), (an 6, .inl (g 0, 8, .inl kn)), (an 7, .inl (g 0, 8, .inl aw)), (an 8, .inl (g 0, 40, .inl ev)), (an 9, .inl (g 0, 40, .inl cr)), (an 10, .inl (g 0, 40, .inl tr)), (an 11, .inl (g 0, 4, .inl lw)), (an 12, .inr (0, [.int (q 0), .int (q 1), .int (q 2), .int (q 3), .int (q 4), .int (q 5), .int (q 6), .int (q 7), .int (q 8)])), (bS, .inl (g 3, 4, .inr (.inr (.inr (.inr (fun j => some (as (2 * j)))))))), (as 0, .inr (3, [.int so0, .int (nI ln0), .ref (as 1)])), (as 1, .inl (g 2, 40, .inr (.inl it0))), (as 2, .inr (3, [.int so1, .int (nI ln1), .ref (as 3)])), (as 3, .inl (g 2, 40, .inr (.inl it1))), (as 4, .inr (3, [.int so2, .int (nI ln2), .ref (as 5)])), (as 5, .inl (g 2, 40, .inr (.inl it2))), (as 6, .inr (3, [.int so3, .int (nI ln3), .ref (as 7)])), (as 7, .inl (g 2, 40, .inr (.inl it3))), (bV, .inl (g 4, 4, .inr (.inr (.inr (.inr (fun j => some (av j))))))), (av 0, .inr (4, [.int hs0, .int nu0, .int ss0])), (av 1, .inr (4, [.int hs1, .int nu1, .int ss1])), (av 2, .inr (4, [.int hs2, .int nu2, .int ss2])), (av 3, .inr (4, [.int 1, .int (nI ln1), .int so1]))]) rfl ?_
                        refine s_goto (tgt := 118) B dX8_shelf_109 rfl ?_
                        refine s_iconst B dX8_shelf_118 ic_1 ?_
                        refine s_iret B hQ hr dX8_shelf_119 rfl ?_
                        exact ⟨hs0, nu0, ss0, hs1, nu1, ss1, hs2, nu2, ss2, 1, (nI ln1), so1, (shA_1y h4 h35 (by assumption)), (mHo_ne (by decide)), (mNu_ne (by decide)), (mSs_ne (by decide)), (mHo_ne (by decide)), (mNu_ne (by decide)), (mSs_ne (by decide)), (mHo_ne (by decide)), (mNu_ne (by decide)), (mSs_ne (by decide)), (mHo_1 h35 (by rw [show (nI 1).toNatClampNeg = 1 from by decide]; exact h83)), (mNu_1 h35 (by rw [show (nI 1).toNatClampNeg = 1 from by decide]; exact h83) (by rw [show (nI 1).toNatClampNeg = 1 from by decide]; rfl)), (mSs_1 h35 (by rw [show (nI 1).toNatClampNeg = 1 from by decide]; exact h83) (by rw [show (nI 1).toNatClampNeg = 1 from by decide]; rfl)), rfl⟩
                    · refine s_aldqN B 14 3 rfl rfl dX8_shelf_78 (by omega) (by decide) rfl ?_
                      refine s_get (T := TX3) B inX3 19 rfl rfl 0 (Nat.le_of_ble_eq_true rfl) fl_X8_237 rfl rfl dX8_shelf_79 ?_
                      refine s_iconst B dX8_shelf_82 ic_m1 ?_
                      refine s_icmp_eq (tgt := 112) B dX8_shelf_83 rfl (fun h83 => ?_) (fun h83 => ?_)
                      · refine s_aload B dX8_shelf_112 0 rfl ?_
                        refine s_iconst B dX8_shelf_114 ic_2 ?_
                        refine s_put (T := TX4) (ws' := [_, _, _, _, _, _, _, _, _, _, _, _, _, _, _, _, _, _, _, _, _, _, _, _, _, _, _, _]) B inX4 tyX4_ok nmX4 27 rfl rfl 0 (Nat.le_of_ble_eq_true rfl) fl_X8_260 rfl rfl rfl rfl (Nat.le_of_ble_eq_true rfl) rfl dX8_shelf_115 ?_
                        refine s_iconst B dX8_shelf_118 ic_1 ?_
                        refine s_iret B hQ hr dX8_shelf_119 rfl ?_
                        exact ⟨hs0, nu0, ss0, hs1, nu1, ss1, hs2, nu2, ss2, 2, nu3, ss3, (shA_1y h4 h35 (by assumption)), (mHo_ne (by decide)), (mNu_ne (by decide)), (mSs_ne (by decide)), (mHo_ne (by decide)), (mNu_ne (by decide)), (mSs_ne (by decide)), (mHo_ne (by decide)), (mNu_ne (by decide)), (mSs_ne (by decide)), (mHo_2 h19 (fun _ => (by rw [show (nI 2).toNatClampNeg = 2 from by decide]; exact h83))), (mNu_2 h19 (fun _ => (by rw [show (nI 2).toNatClampNeg = 2 from by decide]; exact h83))), (mSs_2 (fun _ => (by rw [show (nI 2).toNatClampNeg = 2 from by decide]; exact h83))), rfl⟩
                      · refine s_aload B dX8_shelf_86 0 rfl ?_
                        refine s_aload_n B dX8_shelf_88 rfl 1 rfl ?_
                        refine s_get (T := TX8) B inX8 0 rfl rfl 6 (Nat.le_of_ble_eq_true rfl) fl_X8_46 rfl rfl dX8_shelf_89 ?_
                        refine s_iload_n B dX8_shelf_92 rfl 4 rfl ?_
                        refine s_aldqN B 14 3 rfl rfl dX8_shelf_93 (by omega) (by decide) rfl ?_
                        refine s_get (T := TX3) B inX3 19 rfl rfl 0 (Nat.le_of_ble_eq_true rfl) fl_X8_237 rfl rfl dX8_shelf_94 ?_
                        refine s_aload_n B dX8_shelf_97 rfl 1 rfl ?_
                        refine s_get (T := TX8) B inX8 0 rfl rfl 6 (Nat.le_of_ble_eq_true rfl) fl_X8_46 rfl rfl dX8_shelf_98 ?_
                        refine s_iload_n B dX8_shelf_101 rfl 4 rfl ?_
                        refine s_aldqN B 14 3 rfl rfl dX8_shelf_102 (by omega) (by decide) rfl ?_
                        refine s_get (T := TX3) B inX3 19 rfl rfl 1 (Nat.le_of_ble_eq_true rfl) fl_X8_226 rfl rfl dX8_shelf_103 ?_
                        refine s_callVv B hsc (c_X4_holdRow l D g (av 3) hs3 nu3 ss3 so2 (nI ln2)) (gw_V ml_X8_257 im_yX4_holdRow se_yX4_holdRow ini_RX4 co_yX4_holdRow) hd_X4_holdRow rfl rfl ⟨(Nat.le_of_ble_eq_true rfl), (Nat.le_of_ble_eq_true rfl)⟩ [27] [0, 1, 2, 3, 4] rfl rfl rfl (ci := 4) (q0 := 0) rfl rfl rfl rfl rfl (Nat.le_of_ble_eq_true rfl) dX8_shelf_106 (fun u_42 hpo => ?_)
                        subst hpo
                        refine s_ws (ws' := [(bo, .inr (8, [.ref (an 0), .ref (ak 0), .int ik, .ref (bT), .ref (hT), .ref (ar 0), .ref bS, .ref bV, .ref (th 0)])), (an 0, .inr (2, [.ref (an 1), .ref (an 2), .ref (an 3), .ref (an 4), .ref (an 5), .ref (an 6), .ref (an 7), .int (nI n), .ref (an 8), .ref (an 9), .ref (an 10), .ref (an 11), .int (nI td), .int z, .ref (an 12)])), (an 1, .inl (g 0, 8, .inl kd)), (an 2, .inl (g 0, 8, .inl ka)), (an 3, .inl (g 0, 8, .inl ho)), (an 4, .inl (g 0, 8, .inl fa)), (an 5, .inl (g 0, 8, .inl si)), (an 6, .inl (g 0, 8, .inl kn)), (an 7, .inl (g 0, 8, .inl aw)), (an 8, .inl (g 0, 40, .inl ev)), (an 9, .inl (g 0, 40, .inl cr)), (an 10, .inl (g 0, 40, .inl tr)), (an 11, .inl (g 0, 4, .inl lw)), (an 12, .inr (0, [.int (q 0), .int (q 1), .int (q 2), .int (q 3), .int (q 4), .int (q 5), .int (q 6), .int (q 7), .int (q 8)])), (bS, .inl (g 3, 4, .inr (.inr (.inr (.inr (fun j => some (as (2 * j)))))))), (as 0, .inr (3, [.int so0, .int (nI ln0), .ref (as 1)])), (as 1, .inl (g 2, 40, .inr (.inl it0))), (as 2, .inr (3, [.int so1, .int (nI ln1), .ref (as 3)])), (as 3, .inl (g 2, 40, .inr (.inl it1))), (as 4, .inr (3, [.int so2, .int (nI ln2), .ref (as 5)])), (as 5, .inl (g 2, 40, .inr (.inl it2))), (as 6, .inr (3, [.int so3, .int (nI ln3), .ref (as 7)])), (as 7, .inl (g 2, 40, .inr (.inl it3))), (bV, .inl (g 4, 4, .inr (.inr (.inr (.inr (fun j => some (av j))))))), (av 0, .inr (4, [.int hs0, .int nu0, .int ss0])), (av 1, .inr (4, [.int hs1, .int nu1, .int ss1])), (av 2, .inr (4, [.int hs2, .int nu2, .int ss2])), (av 3, .inr (4, [.int 1, .int (nI ln2), .int so2]))]) rfl ?_
                        refine s_goto (tgt := 118) B dX8_shelf_109 rfl ?_
                        refine s_iconst B dX8_shelf_118 ic_1 ?_
                        refine s_iret B hQ hr dX8_shelf_119 rfl ?_
                        exact ⟨hs0, nu0, ss0, hs1, nu1, ss1, hs2, nu2, ss2, 1, (nI ln2), so2, (shA_1y h4 h35 (by assumption)), (mHo_ne (by decide)), (mNu_ne (by decide)), (mSs_ne (by decide)), (mHo_ne (by decide)), (mNu_ne (by decide)), (mSs_ne (by decide)), (mHo_ne (by decide)), (mNu_ne (by decide)), (mSs_ne (by decide)), (mHo_1 h35 (by rw [show (nI 2).toNatClampNeg = 2 from by decide]; exact h83)), (mNu_1 h35 (by rw [show (nI 2).toNatClampNeg = 2 from by decide]; exact h83) (by rw [show (nI 2).toNatClampNeg = 2 from by decide]; rfl)), (mSs_1 h35 (by rw [show (nI 2).toNatClampNeg = 2 from by decide]; exact h83) (by rw [show (nI 2).toNatClampNeg = 2 from by decide]; rfl)), rfl⟩
                    · refine s_aldqN B 14 3 rfl rfl dX8_shelf_78 (by omega) (by decide) rfl ?_
                      refine s_get (T := TX3) B inX3 21 rfl rfl 0 (Nat.le_of_ble_eq_true rfl) fl_X8_237 rfl rfl dX8_shelf_79 ?_
                      refine s_iconst B dX8_shelf_82 ic_m1 ?_
                      refine s_icmp_eq (tgt := 112) B dX8_shelf_83 rfl (fun h83 => ?_) (fun h83 => ?_)
                      · refine s_aload B dX8_shelf_112 0 rfl ?_
                        refine s_iconst B dX8_shelf_114 ic_2 ?_
                        refine s_put (T := TX4) (ws' := [_, _, _, _, _, _, _, _, _, _, _, _, _, _, _, _, _, _, _, _, _, _, _, _, _, _, _, _]) B inX4 tyX4_ok nmX4 27 rfl rfl 0 (Nat.le_of_ble_eq_true rfl) fl_X8_260 rfl rfl rfl rfl (Nat.le_of_ble_eq_true rfl) rfl dX8_shelf_115 ?_
                        refine s_iconst B dX8_shelf_118 ic_1 ?_
                        refine s_iret B hQ hr dX8_shelf_119 rfl ?_
                        exact ⟨hs0, nu0, ss0, hs1, nu1, ss1, hs2, nu2, ss2, 2, nu3, ss3, (shA_1y h4 h35 (by assumption)), (mHo_ne (by decide)), (mNu_ne (by decide)), (mSs_ne (by decide)), (mHo_ne (by decide)), (mNu_ne (by decide)), (mSs_ne (by decide)), (mHo_ne (by decide)), (mNu_ne (by decide)), (mSs_ne (by decide)), (mHo_2 h19 (fun _ => (by rw [show (nI 3).toNatClampNeg = 3 from by decide]; exact h83))), (mNu_2 h19 (fun _ => (by rw [show (nI 3).toNatClampNeg = 3 from by decide]; exact h83))), (mSs_2 (fun _ => (by rw [show (nI 3).toNatClampNeg = 3 from by decide]; exact h83))), rfl⟩
                      · refine s_aload B dX8_shelf_86 0 rfl ?_
                        refine s_aload_n B dX8_shelf_88 rfl 1 rfl ?_
                        refine s_get (T := TX8) B inX8 0 rfl rfl 6 (Nat.le_of_ble_eq_true rfl) fl_X8_46 rfl rfl dX8_shelf_89 ?_
                        refine s_iload_n B dX8_shelf_92 rfl 4 rfl ?_
                        refine s_aldqN B 14 3 rfl rfl dX8_shelf_93 (by omega) (by decide) rfl ?_
                        refine s_get (T := TX3) B inX3 21 rfl rfl 0 (Nat.le_of_ble_eq_true rfl) fl_X8_237 rfl rfl dX8_shelf_94 ?_
                        refine s_aload_n B dX8_shelf_97 rfl 1 rfl ?_
                        refine s_get (T := TX8) B inX8 0 rfl rfl 6 (Nat.le_of_ble_eq_true rfl) fl_X8_46 rfl rfl dX8_shelf_98 ?_
                        refine s_iload_n B dX8_shelf_101 rfl 4 rfl ?_
                        refine s_aldqN B 14 3 rfl rfl dX8_shelf_102 (by omega) (by decide) rfl ?_
                        refine s_get (T := TX3) B inX3 21 rfl rfl 1 (Nat.le_of_ble_eq_true rfl) fl_X8_226 rfl rfl dX8_shelf_103 ?_
                        refine s_callVv B hsc (c_X4_holdRow l D g (av 3) hs3 nu3 ss3 so3 (nI ln3)) (gw_V ml_X8_257 im_yX4_holdRow se_yX4_holdRow ini_RX4 co_yX4_holdRow) hd_X4_holdRow rfl rfl ⟨(Nat.le_of_ble_eq_true rfl), (Nat.le_of_ble_eq_true rfl)⟩ [27] [0, 1, 2, 3, 4] rfl rfl rfl (ci := 4) (q0 := 0) rfl rfl rfl rfl rfl (Nat.le_of_ble_eq_true rfl) dX8_shelf_106 (fun u_44 hpo => ?_)
                        subst hpo
                        refine s_ws (ws' := [(bo, .inr (8, [.ref (an 0), .ref (ak 0), .int ik, .ref (bT), .ref (hT), .ref (ar 0), .ref bS, .ref bV, .ref (th 0)])), (an 0, .inr (2, [.ref (an 1), .ref (an 2), .ref (an 3), .ref (an 4), .ref (an 5), .ref (an 6), .ref (an 7), .int (nI n), .ref (an 8), .ref (an 9), .ref (an 10), .ref (an 11), .int (nI td), .int z, .ref (an 12)])), (an 1, .inl (g 0, 8, .inl kd)), (an 2, .inl (g 0, 8, .inl ka)), (an 3, .inl (g 0, 8, .inl ho)), (an 4, .inl (g 0, 8, .inl fa)), (an 5, .inl (g 0, 8, .inl si)), (an 6, .inl (g 0, 8, .inl kn)), (an 7, .inl (g 0, 8, .inl aw)), (an 8, .inl (g 0, 40, .inl ev)), (an 9, .inl (g 0, 40, .inl cr)), (an 10, .inl (g 0, 40, .inl tr)), (an 11, .inl (g 0, 4, .inl lw)), (an 12, .inr (0, [.int (q 0), .int (q 1), .int (q 2), .int (q 3), .int (q 4), .int (q 5), .int (q 6), .int (q 7), .int (q 8)])), (bS, .inl (g 3, 4, .inr (.inr (.inr (.inr (fun j => some (as (2 * j)))))))), (as 0, .inr (3, [.int so0, .int (nI ln0), .ref (as 1)])), (as 1, .inl (g 2, 40, .inr (.inl it0))), (as 2, .inr (3, [.int so1, .int (nI ln1), .ref (as 3)])), (as 3, .inl (g 2, 40, .inr (.inl it1))), (as 4, .inr (3, [.int so2, .int (nI ln2), .ref (as 5)])), (as 5, .inl (g 2, 40, .inr (.inl it2))), (as 6, .inr (3, [.int so3, .int (nI ln3), .ref (as 7)])), (as 7, .inl (g 2, 40, .inr (.inl it3))), (bV, .inl (g 4, 4, .inr (.inr (.inr (.inr (fun j => some (av j))))))), (av 0, .inr (4, [.int hs0, .int nu0, .int ss0])), (av 1, .inr (4, [.int hs1, .int nu1, .int ss1])), (av 2, .inr (4, [.int hs2, .int nu2, .int ss2])), (av 3, .inr (4, [.int 1, .int (nI ln3), .int so3]))]) rfl ?_
                        refine s_goto (tgt := 118) B dX8_shelf_109 rfl ?_
                        refine s_iconst B dX8_shelf_118 ic_1 ?_
                        refine s_iret B hQ hr dX8_shelf_119 rfl ?_
                        exact ⟨hs0, nu0, ss0, hs1, nu1, ss1, hs2, nu2, ss2, 1, (nI ln3), so3, (shA_1y h4 h35 (by assumption)), (mHo_ne (by decide)), (mNu_ne (by decide)), (mSs_ne (by decide)), (mHo_ne (by decide)), (mNu_ne (by decide)), (mSs_ne (by decide)), (mHo_ne (by decide)), (mNu_ne (by decide)), (mSs_ne (by decide)), (mHo_1 h35 (by rw [show (nI 3).toNatClampNeg = 3 from by decide]; exact h83)), (mNu_1 h35 (by rw [show (nI 3).toNatClampNeg = 3 from by decide]; exact h83) (by rw [show (nI 3).toNatClampNeg = 3 from by decide]; rfl)), (mSs_1 h35 (by rw [show (nI 3).toNatClampNeg = 3 from by decide]; exact h83) (by rw [show (nI 3).toNatClampNeg = 3 from by decide]; rfl)), rfl⟩
                · exact absurd h56 h19
            · refine s_iconst B dX8_shelf_45 ic_m1 ?_
              refine s_iret B hQ hr dX8_shelf_46 rfl ?_
              exact ⟨hs0, nu0, ss0, hs1, nu1, ss1, hs2, nu2, ss2, hs3, nu3, ss3, (shA_1n h35 (by assumption)), (mHo_no (by decide)), (mNu_no (by decide)), (mSs_no (by decide)), (mHo_no (by decide)), (mNu_no (by decide)), (mSs_no (by decide)), (mHo_no (by decide)), (mNu_no (by decide)), (mSs_no (by decide)), (mHo_no (by decide)), (mNu_no (by decide)), (mSs_no (by decide)), rfl⟩
        · refine s_aload_n B dX8_shelf_22 rfl 0 rfl ?_
          refine s_get (T := TX8) B inX8 0 rfl rfl 0 (Nat.le_of_ble_eq_true rfl) fl_X8_10 rfl rfl dX8_shelf_23 ?_
          refine s_iload_n B dX8_shelf_26 rfl 3 rfl ?_
          refine s_callVi B hsc (c_X2_hasChild l D g an kd ka ho fa si kn aw n ev cr tr lw td z q n0) (gw_V ml_X8_102 im_yX2_hasChild se_yX2_hasChild ini_RX2 co_yX2_hasChild) hd_X2_hasChild rfl rfl ⟨(Nat.le_of_ble_eq_true rfl), (Nat.le_of_ble_eq_true rfl)⟩ [1, 2, 3, 4, 5, 6, 7, 8, 9, 10, 11, 12, 13] [0, 1, 2, 3, 4] rfl rfl rfl (ci := 2) (q0 := 0) rfl rfl rfl rfl rfl (Nat.le_of_ble_eq_true rfl) dX8_shelf_27 (fun r_9 u_10 hpo => ?_)
          obtain ⟨rfl, rfl⟩ := hpo
          refine s_st (st' := [.int (if ¬ n0 < 0 ∧ n0 < nI n then 1 else 0)]) rfl ?_
          refine s_ws (ws' := [(bo, .inr (8, [.ref (an 0), .ref (ak 0), .int ik, .ref (bT), .ref (hT), .ref (ar 0), .ref bS, .ref bV, .ref (th 0)])), (an 0, .inr (2, [.ref (an 1), .ref (an 2), .ref (an 3), .ref (an 4), .ref (an 5), .ref (an 6), .ref (an 7), .int (nI n), .ref (an 8), .ref (an 9), .ref (an 10), .ref (an 11), .int (nI td), .int z, .ref (an 12)])), (an 1, .inl (g 0, 8, .inl kd)), (an 2, .inl (g 0, 8, .inl ka)), (an 3, .inl (g 0, 8, .inl ho)), (an 4, .inl (g 0, 8, .inl fa)), (an 5, .inl (g 0, 8, .inl si)), (an 6, .inl (g 0, 8, .inl kn)), (an 7, .inl (g 0, 8, .inl aw)), (an 8, .inl (g 0, 40, .inl ev)), (an 9, .inl (g 0, 40, .inl cr)), (an 10, .inl (g 0, 40, .inl tr)), (an 11, .inl (g 0, 4, .inl lw)), (an 12, .inr (0, [.int (q 0), .int (q 1), .int (q 2), .int (q 3), .int (q 4), .int (q 5), .int (q 6), .int (q 7), .int (q 8)])), (bS, .inl (g 3, 4, .inr (.inr (.inr (.inr (fun j => some (as (2 * j)))))))), (as 0, .inr (3, [.int so0, .int (nI ln0), .ref (as 1)])), (as 1, .inl (g 2, 40, .inr (.inl it0))), (as 2, .inr (3, [.int so1, .int (nI ln1), .ref (as 3)])), (as 3, .inl (g 2, 40, .inr (.inl it1))), (as 4, .inr (3, [.int so2, .int (nI ln2), .ref (as 5)])), (as 5, .inl (g 2, 40, .inr (.inl it2))), (as 6, .inr (3, [.int so3, .int (nI ln3), .ref (as 7)])), (as 7, .inl (g 2, 40, .inr (.inl it3))), (bV, .inl (g 4, 4, .inr (.inr (.inr (.inr (fun j => some (av j))))))), (av 0, .inr (4, [.int hs0, .int nu0, .int ss0])), (av 1, .inr (4, [.int hs1, .int nu1, .int ss1])), (av 2, .inr (4, [.int hs2, .int nu2, .int ss2])), (av 3, .inr (4, [.int hs3, .int nu3, .int ss3]))]) rfl ?_
          refine s_bif_eq (tgt := 45) B dX8_shelf_30 rfl (fun h30 => ?_) (fun h30 => ?_)
          · refine s_iconst B dX8_shelf_45 ic_m1 ?_
            refine s_iret B hQ hr dX8_shelf_46 rfl ?_
            exact ⟨hs0, nu0, ss0, hs1, nu1, ss1, hs2, nu2, ss2, hs3, nu3, ss3, (shA_0n h19 (by assumption)), (mHo_no (by decide)), (mNu_no (by decide)), (mSs_no (by decide)), (mHo_no (by decide)), (mNu_no (by decide)), (mSs_no (by decide)), (mHo_no (by decide)), (mNu_no (by decide)), (mSs_no (by decide)), (mHo_no (by decide)), (mNu_no (by decide)), (mSs_no (by decide)), rfl⟩
          · obtain ⟨k_11, hk_12, rfl⟩ := nat_lt2 (N := n) h30.1 h30.2 (by omega)
            refine s_iload_n B dX8_shelf_33 rfl 2 rfl ?_
            refine s_iconst B dX8_shelf_34 ic_1 ?_
            refine s_icmp_ne (tgt := 47) B dX8_shelf_35 rfl (fun h35 => ?_) (fun h35 => ?_)
            · refine s_aload_n B dX8_shelf_47 rfl 0 rfl ?_
              refine s_get (T := TX8) B inX8 0 rfl rfl 7 (Nat.le_of_ble_eq_true rfl) fl_X8_52 rfl rfl dX8_shelf_48 ?_
              refine s_iload_n B dX8_shelf_51 rfl 1 rfl ?_
              rcases (show k_3 = 0 ∨ k_3 = 1 ∨ k_3 = 2 ∨ k_3 = 3 from by omega) with rfl | rfl | rfl | rfl
              · refine s_aldqN B 23 4 rfl rfl dX8_shelf_52 (by omega) (by decide) rfl ?_
                refine s_astore (lv' := [(4, _), (0, _), (1, _), (2, _), (3, _)]) B dX8_shelf_53 (Nat.le_of_ble_eq_true rfl) rfl ?_
                refine s_iload_n B dX8_shelf_55 rfl 3 rfl ?_
                refine s_if_ne (tgt := 68) B dX8_shelf_56 rfl (fun h56 => ?_) (fun h56 => ?_)
                · exact absurd h19 h56
                · refine s_aload B dX8_shelf_59 0 rfl ?_
                  refine s_iload_n B dX8_shelf_61 rfl 4 rfl ?_
                  refine s_callVv B hsc (c_X4_holdChild l D g (av 0) hs0 nu0 ss0 (nI k_11)) (gw_V ml_X8_253 im_yX4_holdChild se_yX4_holdChild ini_RX4 co_yX4_holdChild) hd_X4_holdChild rfl rfl ⟨(Nat.le_of_ble_eq_true rfl), (Nat.le_of_ble_eq_true rfl)⟩ [24] [0, 1, 2, 3, 4] rfl rfl rfl (ci := 4) (q0 := 0) rfl rfl rfl rfl rfl (Nat.le_of_ble_eq_true rfl) dX8_shelf_62 (fun u_46 hpo => ?_)
                  subst hpo
                  refine s_ws (ws' := [(bo, .inr (8, [.ref (an 0), .ref (ak 0), .int ik, .ref (bT), .ref (hT), .ref (ar 0), .ref bS, .ref bV, .ref (th 0)])), (an 0, .inr (2, [.ref (an 1), .ref (an 2), .ref (an 3), .ref (an 4), .ref (an 5), .ref (an 6), .ref (an 7), .int (nI n), .ref (an 8), .ref (an 9), .ref (an 10), .ref (an 11), .int (nI td), .int z, .ref (an 12)])), (an 1, .inl (g 0, 8, .inl kd)), (an 2, .inl (g 0, 8, .inl ka)), (an 3, .inl (g 0, 8, .inl ho)), (an 4, .inl (g 0, 8, .inl fa)), (an 5, .inl (g 0, 8, .inl si)), (an 6, .inl (g 0, 8, .inl kn)), (an 7, .inl (g 0, 8, .inl aw)), (an 8, .inl (g 0, 40, .inl ev)), (an 9, .inl (g 0, 40, .inl cr)), (an 10, .inl (g 0, 40, .inl tr)), (an 11, .inl (g 0, 4, .inl lw)), (an 12, .inr (0, [.int (q 0), .int (q 1), .int (q 2), .int (q 3), .int (q 4), .int (q 5), .int (q 6), .int (q 7), .int (q 8)])), (bS, .inl (g 3, 4, .inr (.inr (.inr (.inr (fun j => some (as (2 * j)))))))), (as 0, .inr (3, [.int so0, .int (nI ln0), .ref (as 1)])), (as 1, .inl (g 2, 40, .inr (.inl it0))), (as 2, .inr (3, [.int so1, .int (nI ln1), .ref (as 3)])), (as 3, .inl (g 2, 40, .inr (.inl it1))), (as 4, .inr (3, [.int so2, .int (nI ln2), .ref (as 5)])), (as 5, .inl (g 2, 40, .inr (.inl it2))), (as 6, .inr (3, [.int so3, .int (nI ln3), .ref (as 7)])), (as 7, .inl (g 2, 40, .inr (.inl it3))), (bV, .inl (g 4, 4, .inr (.inr (.inr (.inr (fun j => some (av j))))))), (av 0, .inr (4, [.int 0, .int (nI k_11), .int ss0])), (av 1, .inr (4, [.int hs1, .int nu1, .int ss1])), (av 2, .inr (4, [.int hs2, .int nu2, .int ss2])), (av 3, .inr (4, [.int hs3, .int nu3, .int ss3]))]) rfl ?_
                  refine s_goto (tgt := 118) B dX8_shelf_65 rfl ?_
                  refine s_iconst B dX8_shelf_118 ic_1 ?_
                  refine s_iret B hQ hr dX8_shelf_119 rfl ?_
                  exact ⟨0, (nI k_11), ss0, hs1, nu1, ss1, hs2, nu2, ss2, hs3, nu3, ss3, (shA_0y h4 h19 (by assumption)), (mHo_0 h19), (mNu_0 h19), (mSs_n (by rw [h19]; decide)), (mHo_ne (by decide)), (mNu_ne (by decide)), (mSs_ne (by decide)), (mHo_ne (by decide)), (mNu_ne (by decide)), (mSs_ne (by decide)), (mHo_ne (by decide)), (mNu_ne (by decide)), (mSs_ne (by decide)), rfl⟩
              · refine s_aldqN B 23 4 rfl rfl dX8_shelf_52 (by omega) (by decide) rfl ?_
                refine s_astore (lv' := [(4, _), (0, _), (1, _), (2, _), (3, _)]) B dX8_shelf_53 (Nat.le_of_ble_eq_true rfl) rfl ?_
                refine s_iload_n B dX8_shelf_55 rfl 3 rfl ?_
                refine s_if_ne (tgt := 68) B dX8_shelf_56 rfl (fun h56 => ?_) (fun h56 => ?_)
                · exact absurd h19 h56
                · refine s_aload B dX8_shelf_59 0 rfl ?_
                  refine s_iload_n B dX8_shelf_61 rfl 4 rfl ?_
                  refine s_callVv B hsc (c_X4_holdChild l D g (av 1) hs1 nu1 ss1 (nI k_11)) (gw_V ml_X8_253 im_yX4_holdChild se_yX4_holdChild ini_RX4 co_yX4_holdChild) hd_X4_holdChild rfl rfl ⟨(Nat.le_of_ble_eq_true rfl), (Nat.le_of_ble_eq_true rfl)⟩ [25] [0, 1, 2, 3, 4] rfl rfl rfl (ci := 4) (q0 := 0) rfl rfl rfl rfl rfl (Nat.le_of_ble_eq_true rfl) dX8_shelf_62 (fun u_48 hpo => ?_)
                  subst hpo
                  refine s_ws (ws' := [(bo, .inr (8, [.ref (an 0), .ref (ak 0), .int ik, .ref (bT), .ref (hT), .ref (ar 0), .ref bS, .ref bV, .ref (th 0)])), (an 0, .inr (2, [.ref (an 1), .ref (an 2), .ref (an 3), .ref (an 4), .ref (an 5), .ref (an 6), .ref (an 7), .int (nI n), .ref (an 8), .ref (an 9), .ref (an 10), .ref (an 11), .int (nI td), .int z, .ref (an 12)])), (an 1, .inl (g 0, 8, .inl kd)), (an 2, .inl (g 0, 8, .inl ka)), (an 3, .inl (g 0, 8, .inl ho)), (an 4, .inl (g 0, 8, .inl fa)), (an 5, .inl (g 0, 8, .inl si)), (an 6, .inl (g 0, 8, .inl kn)), (an 7, .inl (g 0, 8, .inl aw)), (an 8, .inl (g 0, 40, .inl ev)), (an 9, .inl (g 0, 40, .inl cr)), (an 10, .inl (g 0, 40, .inl tr)), (an 11, .inl (g 0, 4, .inl lw)), (an 12, .inr (0, [.int (q 0), .int (q 1), .int (q 2), .int (q 3), .int (q 4), .int (q 5), .int (q 6), .int (q 7), .int (q 8)])), (bS, .inl (g 3, 4, .inr (.inr (.inr (.inr (fun j => some (as (2 * j)))))))), (as 0, .inr (3, [.int so0, .int (nI ln0), .ref (as 1)])), (as 1, .inl (g 2, 40, .inr (.inl it0))), (as 2, .inr (3, [.int so1, .int (nI ln1), .ref (as 3)])), (as 3, .inl (g 2, 40, .inr (.inl it1))), (as 4, .inr (3, [.int so2, .int (nI ln2), .ref (as 5)])), (as 5, .inl (g 2, 40, .inr (.inl it2))), (as 6, .inr (3, [.int so3, .int (nI ln3), .ref (as 7)])), (as 7, .inl (g 2, 40, .inr (.inl it3))), (bV, .inl (g 4, 4, .inr (.inr (.inr (.inr (fun j => some (av j))))))), (av 0, .inr (4, [.int hs0, .int nu0, .int ss0])), (av 1, .inr (4, [.int 0, .int (nI k_11), .int ss1])), (av 2, .inr (4, [.int hs2, .int nu2, .int ss2])), (av 3, .inr (4, [.int hs3, .int nu3, .int ss3]))]) rfl ?_
                  refine s_goto (tgt := 118) B dX8_shelf_65 rfl ?_
                  refine s_iconst B dX8_shelf_118 ic_1 ?_
                  refine s_iret B hQ hr dX8_shelf_119 rfl ?_
                  exact ⟨hs0, nu0, ss0, 0, (nI k_11), ss1, hs2, nu2, ss2, hs3, nu3, ss3, (shA_0y h4 h19 (by assumption)), (mHo_ne (by decide)), (mNu_ne (by decide)), (mSs_ne (by decide)), (mHo_0 h19), (mNu_0 h19), (mSs_n (by rw [h19]; decide)), (mHo_ne (by decide)), (mNu_ne (by decide)), (mSs_ne (by decide)), (mHo_ne (by decide)), (mNu_ne (by decide)), (mSs_ne (by decide)), rfl⟩
              · refine s_aldqN B 23 4 rfl rfl dX8_shelf_52 (by omega) (by decide) rfl ?_
                refine s_astore (lv' := [(4, _), (0, _), (1, _), (2, _), (3, _)]) B dX8_shelf_53 (Nat.le_of_ble_eq_true rfl) rfl ?_
                refine s_iload_n B dX8_shelf_55 rfl 3 rfl ?_
                refine s_if_ne (tgt := 68) B dX8_shelf_56 rfl (fun h56 => ?_) (fun h56 => ?_)
                · exact absurd h19 h56
                · refine s_aload B dX8_shelf_59 0 rfl ?_
                  refine s_iload_n B dX8_shelf_61 rfl 4 rfl ?_
                  refine s_callVv B hsc (c_X4_holdChild l D g (av 2) hs2 nu2 ss2 (nI k_11)) (gw_V ml_X8_253 im_yX4_holdChild se_yX4_holdChild ini_RX4 co_yX4_holdChild) hd_X4_holdChild rfl rfl ⟨(Nat.le_of_ble_eq_true rfl), (Nat.le_of_ble_eq_true rfl)⟩ [26] [0, 1, 2, 3, 4] rfl rfl rfl (ci := 4) (q0 := 0) rfl rfl rfl rfl rfl (Nat.le_of_ble_eq_true rfl) dX8_shelf_62 (fun u_50 hpo => ?_)
                  subst hpo
                  refine s_ws (ws' := [(bo, .inr (8, [.ref (an 0), .ref (ak 0), .int ik, .ref (bT), .ref (hT), .ref (ar 0), .ref bS, .ref bV, .ref (th 0)])), (an 0, .inr (2, [.ref (an 1), .ref (an 2), .ref (an 3), .ref (an 4), .ref (an 5), .ref (an 6), .ref (an 7), .int (nI n), .ref (an 8), .ref (an 9), .ref (an 10), .ref (an 11), .int (nI td), .int z, .ref (an 12)])), (an 1, .inl (g 0, 8, .inl kd)), (an 2, .inl (g 0, 8, .inl ka)), (an 3, .inl (g 0, 8, .inl ho)), (an 4, .inl (g 0, 8, .inl fa)), (an 5, .inl (g 0, 8, .inl si)), (an 6, .inl (g 0, 8, .inl kn)), (an 7, .inl (g 0, 8, .inl aw)), (an 8, .inl (g 0, 40, .inl ev)), (an 9, .inl (g 0, 40, .inl cr)), (an 10, .inl (g 0, 40, .inl tr)), (an 11, .inl (g 0, 4, .inl lw)), (an 12, .inr (0, [.int (q 0), .int (q 1), .int (q 2), .int (q 3), .int (q 4), .int (q 5), .int (q 6), .int (q 7), .int (q 8)])), (bS, .inl (g 3, 4, .inr (.inr (.inr (.inr (fun j => some (as (2 * j)))))))), (as 0, .inr (3, [.int so0, .int (nI ln0), .ref (as 1)])), (as 1, .inl (g 2, 40, .inr (.inl it0))), (as 2, .inr (3, [.int so1, .int (nI ln1), .ref (as 3)])), (as 3, .inl (g 2, 40, .inr (.inl it1))), (as 4, .inr (3, [.int so2, .int (nI ln2), .ref (as 5)])), (as 5, .inl (g 2, 40, .inr (.inl it2))), (as 6, .inr (3, [.int so3, .int (nI ln3), .ref (as 7)])), (as 7, .inl (g 2, 40, .inr (.inl it3))), (bV, .inl (g 4, 4, .inr (.inr (.inr (.inr (fun j => some (av j))))))), (av 0, .inr (4, [.int hs0, .int nu0, .int ss0])), (av 1, .inr (4, [.int hs1, .int nu1, .int ss1])), (av 2, .inr (4, [.int 0, .int (nI k_11), .int ss2])), (av 3, .inr (4, [.int hs3, .int nu3, .int ss3]))]) rfl ?_
                  refine s_goto (tgt := 118) B dX8_shelf_65 rfl ?_
                  refine s_iconst B dX8_shelf_118 ic_1 ?_
                  refine s_iret B hQ hr dX8_shelf_119 rfl ?_
                  exact ⟨hs0, nu0, ss0, hs1, nu1, ss1, 0, (nI k_11), ss2, hs3, nu3, ss3, (shA_0y h4 h19 (by assumption)), (mHo_ne (by decide)), (mNu_ne (by decide)), (mSs_ne (by decide)), (mHo_ne (by decide)), (mNu_ne (by decide)), (mSs_ne (by decide)), (mHo_0 h19), (mNu_0 h19), (mSs_n (by rw [h19]; decide)), (mHo_ne (by decide)), (mNu_ne (by decide)), (mSs_ne (by decide)), rfl⟩
              · refine s_aldqN B 23 4 rfl rfl dX8_shelf_52 (by omega) (by decide) rfl ?_
                refine s_astore (lv' := [(4, _), (0, _), (1, _), (2, _), (3, _)]) B dX8_shelf_53 (Nat.le_of_ble_eq_true rfl) rfl ?_
                refine s_iload_n B dX8_shelf_55 rfl 3 rfl ?_
                refine s_if_ne (tgt := 68) B dX8_shelf_56 rfl (fun h56 => ?_) (fun h56 => ?_)
                · exact absurd h19 h56
                · refine s_aload B dX8_shelf_59 0 rfl ?_
                  refine s_iload_n B dX8_shelf_61 rfl 4 rfl ?_
                  refine s_callVv B hsc (c_X4_holdChild l D g (av 3) hs3 nu3 ss3 (nI k_11)) (gw_V ml_X8_253 im_yX4_holdChild se_yX4_holdChild ini_RX4 co_yX4_holdChild) hd_X4_holdChild rfl rfl ⟨(Nat.le_of_ble_eq_true rfl), (Nat.le_of_ble_eq_true rfl)⟩ [27] [0, 1, 2, 3, 4] rfl rfl rfl (ci := 4) (q0 := 0) rfl rfl rfl rfl rfl (Nat.le_of_ble_eq_true rfl) dX8_shelf_62 (fun u_52 hpo => ?_)
                  subst hpo
                  refine s_ws (ws' := [(bo, .inr (8, [.ref (an 0), .ref (ak 0), .int ik, .ref (bT), .ref (hT), .ref (ar 0), .ref bS, .ref bV, .ref (th 0)])), (an 0, .inr (2, [.ref (an 1), .ref (an 2), .ref (an 3), .ref (an 4), .ref (an 5), .ref (an 6), .ref (an 7), .int (nI n), .ref (an 8), .ref (an 9), .ref (an 10), .ref (an 11), .int (nI td), .int z, .ref (an 12)])), (an 1, .inl (g 0, 8, .inl kd)), (an 2, .inl (g 0, 8, .inl ka)), (an 3, .inl (g 0, 8, .inl ho)), (an 4, .inl (g 0, 8, .inl fa)), (an 5, .inl (g 0, 8, .inl si)), (an 6, .inl (g 0, 8, .inl kn)), (an 7, .inl (g 0, 8, .inl aw)), (an 8, .inl (g 0, 40, .inl ev)), (an 9, .inl (g 0, 40, .inl cr)), (an 10, .inl (g 0, 40, .inl tr)), (an 11, .inl (g 0, 4, .inl lw)), (an 12, .inr (0, [.int (q 0), .int (q 1), .int (q 2), .int (q 3), .int (q 4), .int (q 5), .int (q 6), .int (q 7), .int (q 8)])), (bS, .inl (g 3, 4, .inr (.inr (.inr (.inr (fun j => some (as (2 * j)))))))), (as 0, .inr (3, [.int so0, .int (nI ln0), .ref (as 1)])), (as 1, .inl (g 2, 40, .inr (.inl it0))), (as 2, .inr (3, [.int so1, .int (nI ln1), .ref (as 3)])), (as 3, .inl (g 2, 40, .inr (.inl it1))), (as 4, .inr (3, [.int so2, .int (nI ln2), .ref (as 5)])), (as 5, .inl (g 2, 40, .inr (.inl it2))), (as 6, .inr (3, [.int so3, .int (nI ln3), .ref (as 7)])), (as 7, .inl (g 2, 40, .inr (.inl it3))), (bV, .inl (g 4, 4, .inr (.inr (.inr (.inr (fun j => some (av j))))))), (av 0, .inr (4, [.int hs0, .int nu0, .int ss0])), (av 1, .inr (4, [.int hs1, .int nu1, .int ss1])), (av 2, .inr (4, [.int hs2, .int nu2, .int ss2])), (av 3, .inr (4, [.int 0, .int (nI k_11), .int ss3]))]) rfl ?_
                  refine s_goto (tgt := 118) B dX8_shelf_65 rfl ?_
                  refine s_iconst B dX8_shelf_118 ic_1 ?_
                  refine s_iret B hQ hr dX8_shelf_119 rfl ?_
                  exact ⟨hs0, nu0, ss0, hs1, nu1, ss1, hs2, nu2, ss2, 0, (nI k_11), ss3, (shA_0y h4 h19 (by assumption)), (mHo_ne (by decide)), (mNu_ne (by decide)), (mSs_ne (by decide)), (mHo_ne (by decide)), (mNu_ne (by decide)), (mSs_ne (by decide)), (mHo_ne (by decide)), (mNu_ne (by decide)), (mSs_ne (by decide)), (mHo_0 h19), (mNu_0 h19), (mSs_n (by rw [h19]; decide)), rfl⟩
            · refine s_iload_n B dX8_shelf_38 rfl 3 rfl ?_
              refine s_callSi B hsc (c_X8_isSheet l D g (nI k_11)) (gw_S ml_X8_220 sm_yX8_isSheet ini_RX8 co_yX8_isSheet) hd_X8_isSheet rfl rfl ⟨(Nat.le_of_ble_eq_true rfl), (Nat.le_of_ble_eq_true rfl)⟩ [] [0, 1, 2, 3, 4] rfl rfl rfl rfl rfl (Nat.le_of_ble_eq_true rfl) dX8_shelf_39 (fun r_53 u_54 hpo => ?_)
              obtain ⟨rfl, rfl⟩ := hpo
              refine s_st (st' := [.int (if ¬ (nI k_11) < 0 ∧ (nI k_11) < 4 then 1 else 0)]) rfl ?_
              refine s_ws (ws' := [(bo, .inr (8, [.ref (an 0), .ref (ak 0), .int ik, .ref (bT), .ref (hT), .ref (ar 0), .ref bS, .ref bV, .ref (th 0)])), (an 0, .inr (2, [.ref (an 1), .ref (an 2), .ref (an 3), .ref (an 4), .ref (an 5), .ref (an 6), .ref (an 7), .int (nI n), .ref (an 8), .ref (an 9), .ref (an 10), .ref (an 11), .int (nI td), .int z, .ref (an 12)])), (an 1, .inl (g 0, 8, .inl kd)), (an 2, .inl (g 0, 8, .inl ka)), (an 3, .inl (g 0, 8, .inl ho)), (an 4, .inl (g 0, 8, .inl fa)), (an 5, .inl (g 0, 8, .inl si)), (an 6, .inl (g 0, 8, .inl kn)), (an 7, .inl (g 0, 8, .inl aw)), (an 8, .inl (g 0, 40, .inl ev)), (an 9, .inl (g 0, 40, .inl cr)), (an 10, .inl (g 0, 40, .inl tr)), (an 11, .inl (g 0, 4, .inl lw)), (an 12, .inr (0, [.int (q 0), .int (q 1), .int (q 2), .int (q 3), .int (q 4), .int (q 5), .int (q 6), .int (q 7), .int (q 8)])), (bS, .inl (g 3, 4, .inr (.inr (.inr (.inr (fun j => some (as (2 * j)))))))), (as 0, .inr (3, [.int so0, .int (nI ln0), .ref (as 1)])), (as 1, .inl (g 2, 40, .inr (.inl it0))), (as 2, .inr (3, [.int so1, .int (nI ln1), .ref (as 3)])), (as 3, .inl (g 2, 40, .inr (.inl it1))), (as 4, .inr (3, [.int so2, .int (nI ln2), .ref (as 5)])), (as 5, .inl (g 2, 40, .inr (.inl it2))), (as 6, .inr (3, [.int so3, .int (nI ln3), .ref (as 7)])), (as 7, .inl (g 2, 40, .inr (.inl it3))), (bV, .inl (g 4, 4, .inr (.inr (.inr (.inr (fun j => some (av j))))))), (av 0, .inr (4, [.int hs0, .int nu0, .int ss0])), (av 1, .inr (4, [.int hs1, .int nu1, .int ss1])), (av 2, .inr (4, [.int hs2, .int nu2, .int ss2])), (av 3, .inr (4, [.int hs3, .int nu3, .int ss3]))]) rfl ?_
              refine s_bif_ne (tgt := 47) B dX8_shelf_42 rfl (fun h42 => ?_) (fun h42 => ?_)
              · refine s_aload_n B dX8_shelf_47 rfl 0 rfl ?_
                refine s_get (T := TX8) B inX8 0 rfl rfl 7 (Nat.le_of_ble_eq_true rfl) fl_X8_52 rfl rfl dX8_shelf_48 ?_
                refine s_iload_n B dX8_shelf_51 rfl 1 rfl ?_
                rcases (show k_3 = 0 ∨ k_3 = 1 ∨ k_3 = 2 ∨ k_3 = 3 from by omega) with rfl | rfl | rfl | rfl
                · refine s_aldqN B 23 4 rfl rfl dX8_shelf_52 (by omega) (by decide) rfl ?_
                  refine s_astore (lv' := [(4, _), (0, _), (1, _), (2, _), (3, _)]) B dX8_shelf_53 (Nat.le_of_ble_eq_true rfl) rfl ?_
                  refine s_iload_n B dX8_shelf_55 rfl 3 rfl ?_
                  refine s_if_ne (tgt := 68) B dX8_shelf_56 rfl (fun h56 => ?_) (fun h56 => ?_)
                  · exact absurd h19 h56
                  · refine s_aload B dX8_shelf_59 0 rfl ?_
                    refine s_iload_n B dX8_shelf_61 rfl 4 rfl ?_
                    refine s_callVv B hsc (c_X4_holdChild l D g (av 0) hs0 nu0 ss0 (nI k_11)) (gw_V ml_X8_253 im_yX4_holdChild se_yX4_holdChild ini_RX4 co_yX4_holdChild) hd_X4_holdChild rfl rfl ⟨(Nat.le_of_ble_eq_true rfl), (Nat.le_of_ble_eq_true rfl)⟩ [24] [0, 1, 2, 3, 4] rfl rfl rfl (ci := 4) (q0 := 0) rfl rfl rfl rfl rfl (Nat.le_of_ble_eq_true rfl) dX8_shelf_62 (fun u_56 hpo => ?_)
                    subst hpo
                    refine s_ws (ws' := [(bo, .inr (8, [.ref (an 0), .ref (ak 0), .int ik, .ref (bT), .ref (hT), .ref (ar 0), .ref bS, .ref bV, .ref (th 0)])), (an 0, .inr (2, [.ref (an 1), .ref (an 2), .ref (an 3), .ref (an 4), .ref (an 5), .ref (an 6), .ref (an 7), .int (nI n), .ref (an 8), .ref (an 9), .ref (an 10), .ref (an 11), .int (nI td), .int z, .ref (an 12)])), (an 1, .inl (g 0, 8, .inl kd)), (an 2, .inl (g 0, 8, .inl ka)), (an 3, .inl (g 0, 8, .inl ho)), (an 4, .inl (g 0, 8, .inl fa)), (an 5, .inl (g 0, 8, .inl si)), (an 6, .inl (g 0, 8, .inl kn)), (an 7, .inl (g 0, 8, .inl aw)), (an 8, .inl (g 0, 40, .inl ev)), (an 9, .inl (g 0, 40, .inl cr)), (an 10, .inl (g 0, 40, .inl tr)), (an 11, .inl (g 0, 4, .inl lw)), (an 12, .inr (0, [.int (q 0), .int (q 1), .int (q 2), .int (q 3), .int (q 4), .int (q 5), .int (q 6), .int (q 7), .int (q 8)])), (bS, .inl (g 3, 4, .inr (.inr (.inr (.inr (fun j => some (as (2 * j)))))))), (as 0, .inr (3, [.int so0, .int (nI ln0), .ref (as 1)])), (as 1, .inl (g 2, 40, .inr (.inl it0))), (as 2, .inr (3, [.int so1, .int (nI ln1), .ref (as 3)])), (as 3, .inl (g 2, 40, .inr (.inl it1))), (as 4, .inr (3, [.int so2, .int (nI ln2), .ref (as 5)])), (as 5, .inl (g 2, 40, .inr (.inl it2))), (as 6, .inr (3, [.int so3, .int (nI ln3), .ref (as 7)])), (as 7, .inl (g 2, 40, .inr (.inl it3))), (bV, .inl (g 4, 4, .inr (.inr (.inr (.inr (fun j => some (av j))))))), (av 0, .inr (4, [.int 0, .int (nI k_11), .int ss0])), (av 1, .inr (4, [.int hs1, .int nu1, .int ss1])), (av 2, .inr (4, [.int hs2, .int nu2, .int ss2])), (av 3, .inr (4, [.int hs3, .int nu3, .int ss3]))]) rfl ?_
                    refine s_goto (tgt := 118) B dX8_shelf_65 rfl ?_
                    refine s_iconst B dX8_shelf_118 ic_1 ?_
                    refine s_iret B hQ hr dX8_shelf_119 rfl ?_
                    exact ⟨0, (nI k_11), ss0, hs1, nu1, ss1, hs2, nu2, ss2, hs3, nu3, ss3, (shA_0y h4 h19 (by assumption)), (mHo_0 h19), (mNu_0 h19), (mSs_n (by rw [h19]; decide)), (mHo_ne (by decide)), (mNu_ne (by decide)), (mSs_ne (by decide)), (mHo_ne (by decide)), (mNu_ne (by decide)), (mSs_ne (by decide)), (mHo_ne (by decide)), (mNu_ne (by decide)), (mSs_ne (by decide)), rfl⟩
                · refine s_aldqN B 23 4 rfl rfl dX8_shelf_52 (by omega) (by decide) rfl ?_
                  refine s_astore (lv' := [(4, _), (0, _), (1, _), (2, _), (3, _)]) B dX8_shelf_53 (Nat.le_of_ble_eq_true rfl) rfl ?_
                  refine s_iload_n B dX8_shelf_55 rfl 3 rfl ?_
                  refine s_if_ne (tgt := 68) B dX8_shelf_56 rfl (fun h56 => ?_) (fun h56 => ?_)
                  · exact absurd h19 h56
                  · refine s_aload B dX8_shelf_59 0 rfl ?_
                    refine s_iload_n B dX8_shelf_61 rfl 4 rfl ?_
                    refine s_callVv B hsc (c_X4_holdChild l D g (av 1) hs1 nu1 ss1 (nI k_11)) (gw_V ml_X8_253 im_yX4_holdChild se_yX4_holdChild ini_RX4 co_yX4_holdChild) hd_X4_holdChild rfl rfl ⟨(Nat.le_of_ble_eq_true rfl), (Nat.le_of_ble_eq_true rfl)⟩ [25] [0, 1, 2, 3, 4] rfl rfl rfl (ci := 4) (q0 := 0) rfl rfl rfl rfl rfl (Nat.le_of_ble_eq_true rfl) dX8_shelf_62 (fun u_58 hpo => ?_)
                    subst hpo
                    refine s_ws (ws' := [(bo, .inr (8, [.ref (an 0), .ref (ak 0), .int ik, .ref (bT), .ref (hT), .ref (ar 0), .ref bS, .ref bV, .ref (th 0)])), (an 0, .inr (2, [.ref (an 1), .ref (an 2), .ref (an 3), .ref (an 4), .ref (an 5), .ref (an 6), .ref (an 7), .int (nI n), .ref (an 8), .ref (an 9), .ref (an 10), .ref (an 11), .int (nI td), .int z, .ref (an 12)])), (an 1, .inl (g 0, 8, .inl kd)), (an 2, .inl (g 0, 8, .inl ka)), (an 3, .inl (g 0, 8, .inl ho)), (an 4, .inl (g 0, 8, .inl fa)), (an 5, .inl (g 0, 8, .inl si)), (an 6, .inl (g 0, 8, .inl kn)), (an 7, .inl (g 0, 8, .inl aw)), (an 8, .inl (g 0, 40, .inl ev)), (an 9, .inl (g 0, 40, .inl cr)), (an 10, .inl (g 0, 40, .inl tr)), (an 11, .inl (g 0, 4, .inl lw)), (an 12, .inr (0, [.int (q 0), .int (q 1), .int (q 2), .int (q 3), .int (q 4), .int (q 5), .int (q 6), .int (q 7), .int (q 8)])), (bS, .inl (g 3, 4, .inr (.inr (.inr (.inr (fun j => some (as (2 * j)))))))), (as 0, .inr (3, [.int so0, .int (nI ln0), .ref (as 1)])), (as 1, .inl (g 2, 40, .inr (.inl it0))), (as 2, .inr (3, [.int so1, .int (nI ln1), .ref (as 3)])), (as 3, .inl (g 2, 40, .inr (.inl it1))), (as 4, .inr (3, [.int so2, .int (nI ln2), .ref (as 5)])), (as 5, .inl (g 2, 40, .inr (.inl it2))), (as 6, .inr (3, [.int so3, .int (nI ln3), .ref (as 7)])), (as 7, .inl (g 2, 40, .inr (.inl it3))), (bV, .inl (g 4, 4, .inr (.inr (.inr (.inr (fun j => some (av j))))))), (av 0, .inr (4, [.int hs0, .int nu0, .int ss0])), (av 1, .inr (4, [.int 0, .int (nI k_11), .int ss1])), (av 2, .inr (4, [.int hs2, .int nu2, .int ss2])), (av 3, .inr (4, [.int hs3, .int nu3, .int ss3]))]) rfl ?_
                    refine s_goto (tgt := 118) B dX8_shelf_65 rfl ?_
                    refine s_iconst B dX8_shelf_118 ic_1 ?_
                    refine s_iret B hQ hr dX8_shelf_119 rfl ?_
                    exact ⟨hs0, nu0, ss0, 0, (nI k_11), ss1, hs2, nu2, ss2, hs3, nu3, ss3, (shA_0y h4 h19 (by assumption)), (mHo_ne (by decide)), (mNu_ne (by decide)), (mSs_ne (by decide)), (mHo_0 h19), (mNu_0 h19), (mSs_n (by rw [h19]; decide)), (mHo_ne (by decide)), (mNu_ne (by decide)), (mSs_ne (by decide)), (mHo_ne (by decide)), (mNu_ne (by decide)), (mSs_ne (by decide)), rfl⟩
                · refine s_aldqN B 23 4 rfl rfl dX8_shelf_52 (by omega) (by decide) rfl ?_
                  refine s_astore (lv' := [(4, _), (0, _), (1, _), (2, _), (3, _)]) B dX8_shelf_53 (Nat.le_of_ble_eq_true rfl) rfl ?_
                  refine s_iload_n B dX8_shelf_55 rfl 3 rfl ?_
                  refine s_if_ne (tgt := 68) B dX8_shelf_56 rfl (fun h56 => ?_) (fun h56 => ?_)
                  · exact absurd h19 h56
                  · refine s_aload B dX8_shelf_59 0 rfl ?_
                    refine s_iload_n B dX8_shelf_61 rfl 4 rfl ?_
                    refine s_callVv B hsc (c_X4_holdChild l D g (av 2) hs2 nu2 ss2 (nI k_11)) (gw_V ml_X8_253 im_yX4_holdChild se_yX4_holdChild ini_RX4 co_yX4_holdChild) hd_X4_holdChild rfl rfl ⟨(Nat.le_of_ble_eq_true rfl), (Nat.le_of_ble_eq_true rfl)⟩ [26] [0, 1, 2, 3, 4] rfl rfl rfl (ci := 4) (q0 := 0) rfl rfl rfl rfl rfl (Nat.le_of_ble_eq_true rfl) dX8_shelf_62 (fun u_60 hpo => ?_)
                    subst hpo
                    refine s_ws (ws' := [(bo, .inr (8, [.ref (an 0), .ref (ak 0), .int ik, .ref (bT), .ref (hT), .ref (ar 0), .ref bS, .ref bV, .ref (th 0)])), (an 0, .inr (2, [.ref (an 1), .ref (an 2), .ref (an 3), .ref (an 4), .ref (an 5), .ref (an 6), .ref (an 7), .int (nI n), .ref (an 8), .ref (an 9), .ref (an 10), .ref (an 11), .int (nI td), .int z, .ref (an 12)])), (an 1, .inl (g 0, 8, .inl kd)), (an 2, .inl (g 0, 8, .inl ka)), (an 3, .inl (g 0, 8, .inl ho)), (an 4, .inl (g 0, 8, .inl fa)), (an 5, .inl (g 0, 8, .inl si)), (an 6, .inl (g 0, 8, .inl kn)), (an 7, .inl (g 0, 8, .inl aw)), (an 8, .inl (g 0, 40, .inl ev)), (an 9, .inl (g 0, 40, .inl cr)), (an 10, .inl (g 0, 40, .inl tr)), (an 11, .inl (g 0, 4, .inl lw)), (an 12, .inr (0, [.int (q 0), .int (q 1), .int (q 2), .int (q 3), .int (q 4), .int (q 5), .int (q 6), .int (q 7), .int (q 8)])), (bS, .inl (g 3, 4, .inr (.inr (.inr (.inr (fun j => some (as (2 * j)))))))), (as 0, .inr (3, [.int so0, .int (nI ln0), .ref (as 1)])), (as 1, .inl (g 2, 40, .inr (.inl it0))), (as 2, .inr (3, [.int so1, .int (nI ln1), .ref (as 3)])), (as 3, .inl (g 2, 40, .inr (.inl it1))), (as 4, .inr (3, [.int so2, .int (nI ln2), .ref (as 5)])), (as 5, .inl (g 2, 40, .inr (.inl it2))), (as 6, .inr (3, [.int so3, .int (nI ln3), .ref (as 7)])), (as 7, .inl (g 2, 40, .inr (.inl it3))), (bV, .inl (g 4, 4, .inr (.inr (.inr (.inr (fun j => some (av j))))))), (av 0, .inr (4, [.int hs0, .int nu0, .int ss0])), (av 1, .inr (4, [.int hs1, .int nu1, .int ss1])), (av 2, .inr (4, [.int 0, .int (nI k_11), .int ss2])), (av 3, .inr (4, [.int hs3, .int nu3, .int ss3]))]) rfl ?_
                    refine s_goto (tgt := 118) B dX8_shelf_65 rfl ?_
                    refine s_iconst B dX8_shelf_118 ic_1 ?_
                    refine s_iret B hQ hr dX8_shelf_119 rfl ?_
                    exact ⟨hs0, nu0, ss0, hs1, nu1, ss1, 0, (nI k_11), ss2, hs3, nu3, ss3, (shA_0y h4 h19 (by assumption)), (mHo_ne (by decide)), (mNu_ne (by decide)), (mSs_ne (by decide)), (mHo_ne (by decide)), (mNu_ne (by decide)), (mSs_ne (by decide)), (mHo_0 h19), (mNu_0 h19), (mSs_n (by rw [h19]; decide)), (mHo_ne (by decide)), (mNu_ne (by decide)), (mSs_ne (by decide)), rfl⟩
                · refine s_aldqN B 23 4 rfl rfl dX8_shelf_52 (by omega) (by decide) rfl ?_
                  refine s_astore (lv' := [(4, _), (0, _), (1, _), (2, _), (3, _)]) B dX8_shelf_53 (Nat.le_of_ble_eq_true rfl) rfl ?_
                  refine s_iload_n B dX8_shelf_55 rfl 3 rfl ?_
                  refine s_if_ne (tgt := 68) B dX8_shelf_56 rfl (fun h56 => ?_) (fun h56 => ?_)
                  · exact absurd h19 h56
                  · refine s_aload B dX8_shelf_59 0 rfl ?_
                    refine s_iload_n B dX8_shelf_61 rfl 4 rfl ?_
                    refine s_callVv B hsc (c_X4_holdChild l D g (av 3) hs3 nu3 ss3 (nI k_11)) (gw_V ml_X8_253 im_yX4_holdChild se_yX4_holdChild ini_RX4 co_yX4_holdChild) hd_X4_holdChild rfl rfl ⟨(Nat.le_of_ble_eq_true rfl), (Nat.le_of_ble_eq_true rfl)⟩ [27] [0, 1, 2, 3, 4] rfl rfl rfl (ci := 4) (q0 := 0) rfl rfl rfl rfl rfl (Nat.le_of_ble_eq_true rfl) dX8_shelf_62 (fun u_62 hpo => ?_)
                    subst hpo
                    refine s_ws (ws' := [(bo, .inr (8, [.ref (an 0), .ref (ak 0), .int ik, .ref (bT), .ref (hT), .ref (ar 0), .ref bS, .ref bV, .ref (th 0)])), (an 0, .inr (2, [.ref (an 1), .ref (an 2), .ref (an 3), .ref (an 4), .ref (an 5), .ref (an 6), .ref (an 7), .int (nI n), .ref (an 8), .ref (an 9), .ref (an 10), .ref (an 11), .int (nI td), .int z, .ref (an 12)])), (an 1, .inl (g 0, 8, .inl kd)), (an 2, .inl (g 0, 8, .inl ka)), (an 3, .inl (g 0, 8, .inl ho)), (an 4, .inl (g 0, 8, .inl fa)), (an 5, .inl (g 0, 8, .inl si)), (an 6, .inl (g 0, 8, .inl kn)), (an 7, .inl (g 0, 8, .inl aw)), (an 8, .inl (g 0, 40, .inl ev)), (an 9, .inl (g 0, 40, .inl cr)), (an 10, .inl (g 0, 40, .inl tr)), (an 11, .inl (g 0, 4, .inl lw)), (an 12, .inr (0, [.int (q 0), .int (q 1), .int (q 2), .int (q 3), .int (q 4), .int (q 5), .int (q 6), .int (q 7), .int (q 8)])), (bS, .inl (g 3, 4, .inr (.inr (.inr (.inr (fun j => some (as (2 * j)))))))), (as 0, .inr (3, [.int so0, .int (nI ln0), .ref (as 1)])), (as 1, .inl (g 2, 40, .inr (.inl it0))), (as 2, .inr (3, [.int so1, .int (nI ln1), .ref (as 3)])), (as 3, .inl (g 2, 40, .inr (.inl it1))), (as 4, .inr (3, [.int so2, .int (nI ln2), .ref (as 5)])), (as 5, .inl (g 2, 40, .inr (.inl it2))), (as 6, .inr (3, [.int so3, .int (nI ln3), .ref (as 7)])), (as 7, .inl (g 2, 40, .inr (.inl it3))), (bV, .inl (g 4, 4, .inr (.inr (.inr (.inr (fun j => some (av j))))))), (av 0, .inr (4, [.int hs0, .int nu0, .int ss0])), (av 1, .inr (4, [.int hs1, .int nu1, .int ss1])), (av 2, .inr (4, [.int hs2, .int nu2, .int ss2])), (av 3, .inr (4, [.int 0, .int (nI k_11), .int ss3]))]) rfl ?_
                    refine s_goto (tgt := 118) B dX8_shelf_65 rfl ?_
                    refine s_iconst B dX8_shelf_118 ic_1 ?_
                    refine s_iret B hQ hr dX8_shelf_119 rfl ?_
                    exact ⟨hs0, nu0, ss0, hs1, nu1, ss1, hs2, nu2, ss2, 0, (nI k_11), ss3, (shA_0y h4 h19 (by assumption)), (mHo_ne (by decide)), (mNu_ne (by decide)), (mSs_ne (by decide)), (mHo_ne (by decide)), (mNu_ne (by decide)), (mSs_ne (by decide)), (mHo_ne (by decide)), (mNu_ne (by decide)), (mSs_ne (by decide)), (mHo_0 h19), (mNu_0 h19), (mSs_n (by rw [h19]; decide)), rfl⟩
              · refine s_iconst B dX8_shelf_45 ic_m1 ?_
                refine s_iret B hQ hr dX8_shelf_46 rfl ?_
                exact ⟨hs0, nu0, ss0, hs1, nu1, ss1, hs2, nu2, ss2, hs3, nu3, ss3, (shA_1n h35 (by assumption)), (mHo_no (by decide)), (mNu_no (by decide)), (mSs_no (by decide)), (mHo_no (by decide)), (mNu_no (by decide)), (mSs_no (by decide)), (mHo_no (by decide)), (mNu_no (by decide)), (mSs_no (by decide)), (mHo_no (by decide)), (mNu_no (by decide)), (mSs_no (by decide)), rfl⟩
      · refine s_iconst B dX8_shelf_16 ic_m1 ?_
        refine s_iret B hQ hr dX8_shelf_17 rfl ?_
        exact ⟨hs0, nu0, ss0, hs1, nu1, ss1, hs2, nu2, ss2, hs3, nu3, ss3, (shA_no (by first | exact Or.inl (by assumption) | exact Or.inr (Or.inl (by assumption)) | exact Or.inr (Or.inr (by assumption)))), (mHo_no (by decide)), (mNu_no (by decide)), (mSs_no (by decide)), (mHo_no (by decide)), (mNu_no (by decide)), (mSs_no (by decide)), (mHo_no (by decide)), (mNu_no (by decide)), (mSs_no (by decide)), (mHo_no (by decide)), (mNu_no (by decide)), (mSs_no (by decide)), rfl⟩
section TKC
variable {s x : Int32} {G : MG} {hs nu ss : MA} {j m : Nat} {a b c : Int32}
theorem tkC_no (h : ¬ (¬ s < 0 ∧ s < 4) ∨ (¬ (¬ x < 0 ∧ x < 6) ∧ ¬ (¬ x - 10 < 0 ∧ x - 10 < 4))) : -1 = aTakC s x G hs nu ss := by
  unfold aTakC
  rw [if_pos]
  rcases h with h | h
  · by_cases q : s < 0
    · exact Or.inl (Or.inl q)
    · exact Or.inl (Or.inr (fun w => h ⟨q, w⟩))
  · exact Or.inr h
theorem tkC_at (hj : j < 4) (hX : (¬ x < 0 ∧ x < 6) ∨ (¬ x - 10 < 0 ∧ x - 10 < 4)) (ea : hs j = a) (eb : nu j = b) (ec : ss j = c) : aTakC (nI j) x G hs nu ss = if a = 1 then (if c = x - 10 then b else -13) else if ¬ (a = 0 ∧ okN b (gN G)) then -11 else if (¬ x < 0 ∧ x < 6) ∧ mUd x 3 (gKd G b.toNatClampNeg) = true then b else -13 := by
  unfold aTakC
  rw [if_neg (show ¬ ((nI j < 0 ∨ ¬ nI j < 4) ∨ (¬ (¬ x < 0 ∧ x < 6) ∧ ¬ (¬ x - 10 < 0 ∧ x - 10 < 4))) from fun q => q.elim (fun w => w.elim (nI_pos (by omega)) (fun y => y (nI_lt (b := 4) hj (by decide)))) (fun w => hX.elim w.1 w.2)), nI_clamp (by omega), ea, eb, ec]
theorem tkC_n (hj : j < 4) (hX : (¬ x < 0 ∧ x < 6) ∨ (¬ x - 10 < 0 ∧ x - 10 < 4)) (ea : hs j = a) (eb : nu j = b) (ec : ss j = c) (h1 : ¬ a = 1) (h2 : ¬ (a = 0 ∧ okN b (gN G))) : -11 = aTakC (nI j) x G hs nu ss := by
  rw [tkC_at hj hX ea eb ec, if_neg h1, if_pos h2]
theorem tkC_k (hj : j < 4) (hX : (¬ x < 0 ∧ x < 6) ∨ (¬ x - 10 < 0 ∧ x - 10 < 4)) (ea : hs j = a) (eb : nu j = b) (ec : ss j = c) (h1 : ¬ a = 1) (h2 : a = 0 ∧ okN b (gN G)) (h3 : ¬ (¬ x < 0 ∧ x < 6)) : -13 = aTakC (nI j) x G hs nu ss := by
  rw [tkC_at hj hX ea eb ec, if_neg h1, if_neg (fun w => w h2), if_neg (fun w => h3 w.1)]
theorem tkC_u (hj : j < 4) (hX : (¬ x < 0 ∧ x < 6) ∨ (¬ x - 10 < 0 ∧ x - 10 < 4)) (ea : hs j = a) (eb : nu j = b) (ec : ss j = c) (h1 : ¬ a = 1) (h2 : a = 0 ∧ okN b (gN G)) (hb : b.toNatClampNeg = m) (h3 : ¬ mUd x 3 (gKd G m) = true) : -13 = aTakC (nI j) x G hs nu ss := by
  rw [tkC_at hj hX ea eb ec, if_neg h1, if_neg (fun w => w h2), hb, if_neg (fun w => h3 w.2)]
theorem tkC_y (hj : j < 4) (hX : (¬ x < 0 ∧ x < 6) ∨ (¬ x - 10 < 0 ∧ x - 10 < 4)) (ea : hs j = a) (eb : nu j = b) (ec : ss j = c) (h1 : ¬ a = 1) (h2 : a = 0 ∧ okN b (gN G)) (h0 : ¬ x < 0 ∧ x < 6) (hb : b.toNatClampNeg = m) (h3 : mUd x 3 (gKd G m) = true) : b = aTakC (nI j) x G hs nu ss := by
  rw [tkC_at hj hX ea eb ec, if_neg h1, if_neg (fun w => w h2), hb, if_pos ⟨h0, h3⟩]
theorem tkC_r (hj : j < 4) (hX : (¬ x < 0 ∧ x < 6) ∨ (¬ x - 10 < 0 ∧ x - 10 < 4)) (ea : hs j = a) (eb : nu j = b) (ec : ss j = c) (h1 : a = 1) (h2 : ¬ c = x - 10) : -13 = aTakC (nI j) x G hs nu ss := by
  rw [tkC_at hj hX ea eb ec, if_pos h1, if_neg h2]
theorem tkC_s (hj : j < 4) (hX : (¬ x < 0 ∧ x < 6) ∨ (¬ x - 10 < 0 ∧ x - 10 < 4)) (ea : hs j = a) (eb : nu j = b) (ec : ss j = c) (h1 : a = 1) (h2 : c = x - 10) : b = aTakC (nI j) x G hs nu ss := by
  rw [tkC_at hj hX ea eb ec, if_pos h1, if_pos h2]
end TKC
def rmX8_taken : Room := { frames := 2, cells := 0, slots := 0, locals := 43 }
theorem hd_X8_taken : yX8_taken.cls = RX8 ∧ yX8_taken.cls ≠ "java/lang/invoke/MethodHandle" ∧ yX8_taken.cls ≠ "java/lang/invoke/VarHandle" ∧ (parseMethodDescriptor yX8_taken.desc).map (fun d => d.parameters.length) = some 2 := by decide +kernel
set_option maxHeartbeats 4000000 in
set_option maxRecDepth 100000 in
theorem c_X8_taken (l : Launch) (D : va_G) (g : Nat → ClassId) (bo : Nat) (an : Nat → Nat) (ak : Nat → Nat) (bT : Nat) (hT : Nat) (ar : Nat → Nat) (bS : Nat) (bV : Nat) (th : Nat → Nat) (av : Nat → Nat) (ik : Int32) (n : Nat) (td : Nat) (z : Int32) (kd : Nat → Int32) (ka : Nat → Int32) (ho : Nat → Int32) (fa : Nat → Int32) (si : Nat → Int32) (kn : Nat → Int32) (aw : Nat → Int32) (ev : Nat → Int32) (cr : Nat → Int32) (tr : Nat → Int32) (lw : Nat → Int32) (q : Nat → Int32) (hs0 : Int32) (nu0 : Int32) (ss0 : Int32) (hs1 : Int32) (nu1 : Int32) (ss1 : Int32) (hs2 : Int32) (nu2 : Int32) (ss2 : Int32) (hs3 : Int32) (nu3 : Int32) (ss3 : Int32) (s0 : Int32) (x0 : Int32)  (hb_n : n ≤ 8) (hb_td : td ≤ 40) : Ci l yX8_taken (WW yX8_taken cX8_taken 4 (some FieldType.int)) rmX8_taken D vwCl (TY g) [.ref bo, .int s0, .int x0] [(bo, .inr (8, [.ref (an 0), .ref (ak 0), .int ik, .ref (bT), .ref (hT), .ref (ar 0), .ref (bS), .ref bV, .ref (th 0)])), (an 0, .inr (2, [.ref (an 1), .ref (an 2), .ref (an 3), .ref (an 4), .ref (an 5), .ref (an 6), .ref (an 7), .int (nI n), .ref (an 8), .ref (an 9), .ref (an 10), .ref (an 11), .int (nI td), .int z, .ref (an 12)])), (an 1, .inl (g 0, 8, .inl kd)), (an 2, .inl (g 0, 8, .inl ka)), (an 3, .inl (g 0, 8, .inl ho)), (an 4, .inl (g 0, 8, .inl fa)), (an 5, .inl (g 0, 8, .inl si)), (an 6, .inl (g 0, 8, .inl kn)), (an 7, .inl (g 0, 8, .inl aw)), (an 8, .inl (g 0, 40, .inl ev)), (an 9, .inl (g 0, 40, .inl cr)), (an 10, .inl (g 0, 40, .inl tr)), (an 11, .inl (g 0, 4, .inl lw)), (an 12, .inr (0, [.int (q 0), .int (q 1), .int (q 2), .int (q 3), .int (q 4), .int (q 5), .int (q 6), .int (q 7), .int (q 8)])), (bV, .inl (g 4, 4, .inr (.inr (.inr (.inr (fun j => some (av j))))))), (av 0, .inr (4, [.int hs0, .int nu0, .int ss0])), (av 1, .inr (4, [.int hs1, .int nu1, .int ss1])), (av 2, .inr (4, [.int hs2, .int nu2, .int ss2])), (av 3, .inr (4, [.int hs3, .int nu3, .int ss3]))] (fun r u => (r = aTakC s0 x0 (n, kd, ka, ho, fa, si, kn, aw, ev, cr, tr, lw, td, z) (v4 hs0 hs1 hs2 hs3) (v4 nu0 nu1 nu2 nu3) (v4 ss0 ss1 ss2 ss3)) ∧ u = [(bo, .inr (8, [.ref (an 0), .ref (ak 0), .int ik, .ref (bT), .ref (hT), .ref (ar 0), .ref (bS), .ref bV, .ref (th 0)])), (an 0, .inr (2, [.ref (an 1), .ref (an 2), .ref (an 3), .ref (an 4), .ref (an 5), .ref (an 6), .ref (an 7), .int (nI n), .ref (an 8), .ref (an 9), .ref (an 10), .ref (an 11), .int (nI td), .int z, .ref (an 12)])), (an 1, .inl (g 0, 8, .inl kd)), (an 2, .inl (g 0, 8, .inl ka)), (an 3, .inl (g 0, 8, .inl ho)), (an 4, .inl (g 0, 8, .inl fa)), (an 5, .inl (g 0, 8, .inl si)), (an 6, .inl (g 0, 8, .inl kn)), (an 7, .inl (g 0, 8, .inl aw)), (an 8, .inl (g 0, 40, .inl ev)), (an 9, .inl (g 0, 40, .inl cr)), (an 10, .inl (g 0, 40, .inl tr)), (an 11, .inl (g 0, 4, .inl lw)), (an 12, .inr (0, [.int (q 0), .int (q 1), .int (q 2), .int (q 3), .int (q 4), .int (q 5), .int (q 6), .int (q 7), .int (q 8)])), (bV, .inl (g 4, 4, .inr (.inr (.inr (.inr (fun j => some (av j))))))), (av 0, .inr (4, [.int hs0, .int nu0, .int ss0])), (av 1, .inr (4, [.int hs1, .int nu1, .int ss1])), (av 2, .inr (4, [.int hs2, .int nu2, .int ss2])), (av 3, .inr (4, [.int hs3, .int nu3, .int ss3]))]) := by
  refine ci_in (by decide) (Nat.le_of_ble_eq_true rfl) (a0 := [bo, an 0, an 1, an 2, an 3, an 4, an 5, an 6, an 7, an 8, an 9, an 10, an 11, an 12, bV, av 0, av 1, av 2, av 3]) rfl (fun p e s m args below meth c A Q hQ B hr hsc => ?_)
  refine s_iload_n B dX8_taken_0 rfl 1 rfl ?_
  refine s_callSi B hsc (c_X8_isShelf l D g s0) (gw_S ml_X8_250 sm_yX8_isShelf ini_RX8 co_yX8_isShelf) hd_X8_isShelf rfl rfl ⟨(Nat.le_of_ble_eq_true rfl), (Nat.le_of_ble_eq_true rfl)⟩ [] [0, 1, 2, 3, 4] rfl rfl rfl rfl rfl (Nat.le_of_ble_eq_true rfl) dX8_taken_1 (fun r_1 u_2 hpo => ?_)
  obtain ⟨rfl, rfl⟩ := hpo
  refine s_st (st' := [.int (if ¬ s0 < 0 ∧ s0 < 4 then 1 else 0)]) rfl ?_
  refine s_ws (ws' := [(bo, .inr (8, [.ref (an 0), .ref (ak 0), .int ik, .ref (bT), .ref (hT), .ref (ar 0), .ref (bS), .ref bV, .ref (th 0)])), (an 0, .inr (2, [.ref (an 1), .ref (an 2), .ref (an 3), .ref (an 4), .ref (an 5), .ref (an 6), .ref (an 7), .int (nI n), .ref (an 8), .ref (an 9), .ref (an 10), .ref (an 11), .int (nI td), .int z, .ref (an 12)])), (an 1, .inl (g 0, 8, .inl kd)), (an 2, .inl (g 0, 8, .inl ka)), (an 3, .inl (g 0, 8, .inl ho)), (an 4, .inl (g 0, 8, .inl fa)), (an 5, .inl (g 0, 8, .inl si)), (an 6, .inl (g 0, 8, .inl kn)), (an 7, .inl (g 0, 8, .inl aw)), (an 8, .inl (g 0, 40, .inl ev)), (an 9, .inl (g 0, 40, .inl cr)), (an 10, .inl (g 0, 40, .inl tr)), (an 11, .inl (g 0, 4, .inl lw)), (an 12, .inr (0, [.int (q 0), .int (q 1), .int (q 2), .int (q 3), .int (q 4), .int (q 5), .int (q 6), .int (q 7), .int (q 8)])), (bV, .inl (g 4, 4, .inr (.inr (.inr (.inr (fun j => some (av j))))))), (av 0, .inr (4, [.int hs0, .int nu0, .int ss0])), (av 1, .inr (4, [.int hs1, .int nu1, .int ss1])), (av 2, .inr (4, [.int hs2, .int nu2, .int ss2])), (av 3, .inr (4, [.int hs3, .int nu3, .int ss3]))]) rfl ?_
  refine s_bif_eq (tgt := 24) B dX8_taken_4 rfl (fun h4 => ?_) (fun h4 => ?_)
  · refine s_iconst B dX8_taken_24 ic_m1 ?_
    refine s_iret B hQ hr dX8_taken_25 rfl ?_
    exact ⟨(tkC_no (G := (n, kd, ka, ho, fa, si, kn, aw, ev, cr, tr, lw, td, z)) (by first | exact Or.inl (by assumption) | exact Or.inr ⟨by assumption, by assumption⟩)), rfl⟩
  · obtain ⟨k_3, hk_4, rfl⟩ := nat_lt2 (N := 4) h4.1 h4.2 (by omega)
    have M26 : (n ≤ 8) → (td ≤ 40) → (¬ (nI k_3) < 0 ∧ (nI k_3) < 4) → (k_3 < 4) → ((¬ x0 < 0 ∧ x0 < 6) ∨ (¬ x0 - 10 < 0 ∧ x0 - 10 < 4)) → Sx p l e rmX8_taken s m args below meth c D vwCl A 4 Q 26 [(0, .ref bo), (1, .int (nI k_3)), (2, .int x0)] [] [(bo, .inr (8, [.ref (an 0), .ref (ak 0), .int ik, .ref (bT), .ref (hT), .ref (ar 0), .ref (bS), .ref bV, .ref (th 0)])), (an 0, .inr (2, [.ref (an 1), .ref (an 2), .ref (an 3), .ref (an 4), .ref (an 5), .ref (an 6), .ref (an 7), .int (nI n), .ref (an 8), .ref (an 9), .ref (an 10), .ref (an 11), .int (nI td), .int z, .ref (an 12)])), (an 1, .inl (g 0, 8, .inl kd)), (an 2, .inl (g 0, 8, .inl ka)), (an 3, .inl (g 0, 8, .inl ho)), (an 4, .inl (g 0, 8, .inl fa)), (an 5, .inl (g 0, 8, .inl si)), (an 6, .inl (g 0, 8, .inl kn)), (an 7, .inl (g 0, 8, .inl aw)), (an 8, .inl (g 0, 40, .inl ev)), (an 9, .inl (g 0, 40, .inl cr)), (an 10, .inl (g 0, 40, .inl tr)), (an 11, .inl (g 0, 4, .inl lw)), (an 12, .inr (0, [.int (q 0), .int (q 1), .int (q 2), .int (q 3), .int (q 4), .int (q 5), .int (q 6), .int (q 7), .int (q 8)])), (bV, .inl (g 4, 4, .inr (.inr (.inr (.inr (fun j => some (av j))))))), (av 0, .inr (4, [.int hs0, .int nu0, .int ss0])), (av 1, .inr (4, [.int hs1, .int nu1, .int ss1])), (av 2, .inr (4, [.int hs2, .int nu2, .int ss2])), (av 3, .inr (4, [.int hs3, .int nu3, .int ss3]))] := by
      intro hb_n hb_td h4 hk_4 hX_9
      refine s_aload_n B dX8_taken_26 rfl 0 rfl ?_
      refine s_get (T := TX8) B inX8 0 rfl rfl 7 (Nat.le_of_ble_eq_true rfl) fl_X8_52 rfl rfl dX8_taken_27 ?_
      refine s_iload_n B dX8_taken_30 rfl 1 rfl ?_
      rcases (show k_3 = 0 ∨ k_3 = 1 ∨ k_3 = 2 ∨ k_3 = 3 from by omega) with rfl | rfl | rfl | rfl
      · refine s_aldqN B 14 4 rfl rfl dX8_taken_31 (by omega) (by decide) rfl ?_
        refine s_astore_n (lv' := [(3, _), (0, _), (1, _), (2, _)]) B dX8_taken_32 rfl (Nat.le_of_ble_eq_true rfl) rfl ?_
        refine s_aload_n B dX8_taken_33 rfl 0 rfl ?_
        refine s_get (T := TX4) B inX4 15 rfl rfl 0 (Nat.le_of_ble_eq_true rfl) fl_X8_260 rfl rfl dX8_taken_34 ?_
        refine s_iconst B dX8_taken_37 ic_1 ?_
        refine s_icmp_ne (tgt := 62) B dX8_taken_38 rfl (fun h38 => ?_) (fun h38 => ?_)
        · refine s_aload_n B dX8_taken_62 rfl 1 rfl ?_
          refine s_aload_n B dX8_taken_63 rfl 0 rfl ?_
          refine s_callVi B hsc (c_X8_holdsChild l D g bo an ak bT hT ar bS bV th (av 0) ik n td z kd ka ho fa si kn aw ev cr tr lw q hs0 nu0 ss0 (by omega) (by omega)) (gw_V ml_X8_267 im_yX8_holdsChild se_yX8_holdsChild ini_RX8 co_yX8_holdsChild) hd_X8_holdsChild rfl rfl ⟨(Nat.le_of_ble_eq_true rfl), (Nat.le_of_ble_eq_true rfl)⟩ [0, 1, 2, 3, 4, 5, 6, 7, 8, 9, 10, 11, 12, 13, 15] [0, 1, 2, 3, 4] rfl rfl rfl (ci := 8) (q0 := 0) rfl rfl rfl rfl rfl (Nat.le_of_ble_eq_true rfl) dX8_taken_64 (fun r_10 u_11 hpo => ?_)
          obtain ⟨rfl, rfl⟩ := hpo
          refine s_st (st' := [.int (if hs0 = 0 ∧ (¬ nu0 < 0 ∧ nu0 < nI n) then 1 else 0)]) rfl ?_
          refine s_ws (ws' := [(bo, .inr (8, [.ref (an 0), .ref (ak 0), .int ik, .ref (bT), .ref (hT), .ref (ar 0), .ref (bS), .ref bV, .ref (th 0)])), (an 0, .inr (2, [.ref (an 1), .ref (an 2), .ref (an 3), .ref (an 4), .ref (an 5), .ref (an 6), .ref (an 7), .int (nI n), .ref (an 8), .ref (an 9), .ref (an 10), .ref (an 11), .int (nI td), .int z, .ref (an 12)])), (an 1, .inl (g 0, 8, .inl kd)), (an 2, .inl (g 0, 8, .inl ka)), (an 3, .inl (g 0, 8, .inl ho)), (an 4, .inl (g 0, 8, .inl fa)), (an 5, .inl (g 0, 8, .inl si)), (an 6, .inl (g 0, 8, .inl kn)), (an 7, .inl (g 0, 8, .inl aw)), (an 8, .inl (g 0, 40, .inl ev)), (an 9, .inl (g 0, 40, .inl cr)), (an 10, .inl (g 0, 40, .inl tr)), (an 11, .inl (g 0, 4, .inl lw)), (an 12, .inr (0, [.int (q 0), .int (q 1), .int (q 2), .int (q 3), .int (q 4), .int (q 5), .int (q 6), .int (q 7), .int (q 8)])), (bV, .inl (g 4, 4, .inr (.inr (.inr (.inr (fun j => some (av j))))))), (av 0, .inr (4, [.int hs0, .int nu0, .int ss0])), (av 1, .inr (4, [.int hs1, .int nu1, .int ss1])), (av 2, .inr (4, [.int hs2, .int nu2, .int ss2])), (av 3, .inr (4, [.int hs3, .int nu3, .int ss3]))]) rfl ?_
          refine s_bif_ne (tgt := 73) B dX8_taken_67 rfl (fun h67 => ?_) (fun h67 => ?_)
          · refine s_iload_n B dX8_taken_73 rfl 3 rfl ?_
            refine s_callSi B hsc (c_X8_isKind l D g x0) (gw_S ml_X8_88 sm_yX8_isKind ini_RX8 co_yX8_isKind) hd_X8_isKind rfl rfl ⟨(Nat.le_of_ble_eq_true rfl), (Nat.le_of_ble_eq_true rfl)⟩ [] [0, 1, 2, 3, 4] rfl rfl rfl rfl rfl (Nat.le_of_ble_eq_true rfl) dX8_taken_74 (fun r_12 u_13 hpo => ?_)
            obtain ⟨rfl, rfl⟩ := hpo
            refine s_st (st' := [.int (if ¬ x0 < 0 ∧ x0 < 6 then 1 else 0)]) rfl ?_
            refine s_ws (ws' := [(bo, .inr (8, [.ref (an 0), .ref (ak 0), .int ik, .ref (bT), .ref (hT), .ref (ar 0), .ref (bS), .ref bV, .ref (th 0)])), (an 0, .inr (2, [.ref (an 1), .ref (an 2), .ref (an 3), .ref (an 4), .ref (an 5), .ref (an 6), .ref (an 7), .int (nI n), .ref (an 8), .ref (an 9), .ref (an 10), .ref (an 11), .int (nI td), .int z, .ref (an 12)])), (an 1, .inl (g 0, 8, .inl kd)), (an 2, .inl (g 0, 8, .inl ka)), (an 3, .inl (g 0, 8, .inl ho)), (an 4, .inl (g 0, 8, .inl fa)), (an 5, .inl (g 0, 8, .inl si)), (an 6, .inl (g 0, 8, .inl kn)), (an 7, .inl (g 0, 8, .inl aw)), (an 8, .inl (g 0, 40, .inl ev)), (an 9, .inl (g 0, 40, .inl cr)), (an 10, .inl (g 0, 40, .inl tr)), (an 11, .inl (g 0, 4, .inl lw)), (an 12, .inr (0, [.int (q 0), .int (q 1), .int (q 2), .int (q 3), .int (q 4), .int (q 5), .int (q 6), .int (q 7), .int (q 8)])), (bV, .inl (g 4, 4, .inr (.inr (.inr (.inr (fun j => some (av j))))))), (av 0, .inr (4, [.int hs0, .int nu0, .int ss0])), (av 1, .inr (4, [.int hs1, .int nu1, .int ss1])), (av 2, .inr (4, [.int hs2, .int nu2, .int ss2])), (av 3, .inr (4, [.int hs3, .int nu3, .int ss3]))]) rfl ?_
            refine s_bif_eq (tgt := 106) B dX8_taken_77 rfl (fun h77 => ?_) (fun h77 => ?_)
            · refine s_bipush B dX8_taken_106 bp_m13 ?_
              refine s_iret B hQ hr dX8_taken_108 rfl ?_
              exact ⟨(tkC_k (G := (n, kd, ka, ho, fa, si, kn, aw, ev, cr, tr, lw, td, z)) (j := 0) (a := hs0) (b := nu0) (c := ss0) (by decide) hX_9 rfl rfl rfl h38 h67 h77), rfl⟩
            · obtain ⟨k_14, hk_15, rfl⟩ := nat_lt2 (N := 6) h77.1 h77.2 (by omega)
              obtain ⟨k_34, hk_35, rfl⟩ := nat_lt2 (N := n) h67.2.1 h67.2.2 (by omega)
              refine s_aload_n B dX8_taken_80 rfl 1 rfl ?_
              refine s_get (T := TX8) B inX8 0 rfl rfl 0 (Nat.le_of_ble_eq_true rfl) fl_X8_10 rfl rfl dX8_taken_81 ?_
              refine s_get (T := TX2) B inX2 1 rfl rfl 0 (Nat.le_of_ble_eq_true rfl) fl_X8_109 rfl rfl dX8_taken_84 ?_
              refine s_aload_n B dX8_taken_87 rfl 0 rfl ?_
              refine s_get (T := TX4) B inX4 15 rfl rfl 1 (Nat.le_of_ble_eq_true rfl) fl_X8_264 rfl rfl dX8_taken_88 ?_
              refine s_ialdN B 2 0 rfl rfl dX8_taken_91 (by omega) (by decide) ?_
              refine s_iload_n B dX8_taken_92 rfl 3 rfl ?_
              refine s_callSi B hsc (c_X8_isUnder l D g (kd k_34) (nI k_14)) (gw_S ml_X8_271 sm_yX8_isUnder ini_RX8 co_yX8_isUnder) hd_X8_isUnder rfl rfl ⟨(Nat.le_of_ble_eq_true rfl), (Nat.le_of_ble_eq_true rfl)⟩ [] [0, 1, 2, 3, 4] rfl rfl rfl rfl rfl (Nat.le_of_ble_eq_true rfl) dX8_taken_93 (fun r_36 u_37 hpo => ?_)
              obtain ⟨rfl, rfl⟩ := hpo
              refine s_st (st' := [.int (if mUd (nI k_14) 3 (kd k_34) = true then 1 else 0)]) rfl ?_
              refine s_ws (ws' := [(bo, .inr (8, [.ref (an 0), .ref (ak 0), .int ik, .ref (bT), .ref (hT), .ref (ar 0), .ref (bS), .ref bV, .ref (th 0)])), (an 0, .inr (2, [.ref (an 1), .ref (an 2), .ref (an 3), .ref (an 4), .ref (an 5), .ref (an 6), .ref (an 7), .int (nI n), .ref (an 8), .ref (an 9), .ref (an 10), .ref (an 11), .int (nI td), .int z, .ref (an 12)])), (an 1, .inl (g 0, 8, .inl kd)), (an 2, .inl (g 0, 8, .inl ka)), (an 3, .inl (g 0, 8, .inl ho)), (an 4, .inl (g 0, 8, .inl fa)), (an 5, .inl (g 0, 8, .inl si)), (an 6, .inl (g 0, 8, .inl kn)), (an 7, .inl (g 0, 8, .inl aw)), (an 8, .inl (g 0, 40, .inl ev)), (an 9, .inl (g 0, 40, .inl cr)), (an 10, .inl (g 0, 40, .inl tr)), (an 11, .inl (g 0, 4, .inl lw)), (an 12, .inr (0, [.int (q 0), .int (q 1), .int (q 2), .int (q 3), .int (q 4), .int (q 5), .int (q 6), .int (q 7), .int (q 8)])), (bV, .inl (g 4, 4, .inr (.inr (.inr (.inr (fun j => some (av j))))))), (av 0, .inr (4, [.int hs0, .int (nI k_34), .int ss0])), (av 1, .inr (4, [.int hs1, .int nu1, .int ss1])), (av 2, .inr (4, [.int hs2, .int nu2, .int ss2])), (av 3, .inr (4, [.int hs3, .int nu3, .int ss3]))]) rfl ?_
              refine s_bif_eq (tgt := 106) B dX8_taken_96 rfl (fun h96 => ?_) (fun h96 => ?_)
              · refine s_bipush B dX8_taken_106 bp_m13 ?_
                refine s_iret B hQ hr dX8_taken_108 rfl ?_
                exact ⟨(tkC_u (m := k_34) (G := (n, kd, ka, ho, fa, si, kn, aw, ev, cr, tr, lw, td, z)) (j := 0) (a := hs0) (b := (nI k_34)) (c := ss0) (by decide) hX_9 rfl rfl rfl h38 h67 (nI_clamp (by omega)) h96), rfl⟩
              · refine s_aload_n B dX8_taken_99 rfl 0 rfl ?_
                refine s_get (T := TX4) B inX4 15 rfl rfl 1 (Nat.le_of_ble_eq_true rfl) fl_X8_264 rfl rfl dX8_taken_100 ?_
                refine s_goto (tgt := 108) B dX8_taken_103 rfl ?_
                refine s_iret B hQ hr dX8_taken_108 rfl ?_
                exact ⟨(tkC_y (m := k_34) (G := (n, kd, ka, ho, fa, si, kn, aw, ev, cr, tr, lw, td, z)) (j := 0) (a := hs0) (b := (nI k_34)) (c := ss0) (by decide) hX_9 rfl rfl rfl h38 h67 h77 (nI_clamp (by omega)) h96), rfl⟩
          · refine s_bipush B dX8_taken_70 bp_m11 ?_
            refine s_iret B hQ hr dX8_taken_72 rfl ?_
            exact ⟨(tkC_n (G := (n, kd, ka, ho, fa, si, kn, aw, ev, cr, tr, lw, td, z)) (j := 0) (a := hs0) (b := nu0) (c := ss0) (by decide) hX_9 rfl rfl rfl h38 h67), rfl⟩
        · refine s_aload_n B dX8_taken_41 rfl 0 rfl ?_
          refine s_get (T := TX4) B inX4 15 rfl rfl 2 (Nat.le_of_ble_eq_true rfl) fl_X8_263 rfl rfl dX8_taken_42 ?_
          refine s_iload_n B dX8_taken_45 rfl 3 rfl ?_
          refine s_bipush B dX8_taken_46 bp_10 ?_
          refine s_isub B dX8_taken_48 ?_
          refine s_icmp_ne (tgt := 59) B dX8_taken_49 rfl (fun h49 => ?_) (fun h49 => ?_)
          · refine s_bipush B dX8_taken_59 bp_m13 ?_
            refine s_iret B hQ hr dX8_taken_61 rfl ?_
            exact ⟨(tkC_r (G := (n, kd, ka, ho, fa, si, kn, aw, ev, cr, tr, lw, td, z)) (j := 0) (a := hs0) (b := nu0) (c := ss0) (by decide) hX_9 rfl rfl rfl h38 h49), rfl⟩
          · refine s_aload_n B dX8_taken_52 rfl 0 rfl ?_
            refine s_get (T := TX4) B inX4 15 rfl rfl 1 (Nat.le_of_ble_eq_true rfl) fl_X8_264 rfl rfl dX8_taken_53 ?_
            refine s_goto (tgt := 61) B dX8_taken_56 rfl ?_
            refine s_iret B hQ hr dX8_taken_61 rfl ?_
            exact ⟨(tkC_s (G := (n, kd, ka, ho, fa, si, kn, aw, ev, cr, tr, lw, td, z)) (j := 0) (a := hs0) (b := nu0) (c := ss0) (by decide) hX_9 rfl rfl rfl h38 h49), rfl⟩
      · refine s_aldqN B 14 4 rfl rfl dX8_taken_31 (by omega) (by decide) rfl ?_
        refine s_astore_n (lv' := [(3, _), (0, _), (1, _), (2, _)]) B dX8_taken_32 rfl (Nat.le_of_ble_eq_true rfl) rfl ?_
        refine s_aload_n B dX8_taken_33 rfl 0 rfl ?_
        refine s_get (T := TX4) B inX4 16 rfl rfl 0 (Nat.le_of_ble_eq_true rfl) fl_X8_260 rfl rfl dX8_taken_34 ?_
        refine s_iconst B dX8_taken_37 ic_1 ?_
        refine s_icmp_ne (tgt := 62) B dX8_taken_38 rfl (fun h38 => ?_) (fun h38 => ?_)
        · refine s_aload_n B dX8_taken_62 rfl 1 rfl ?_
          refine s_aload_n B dX8_taken_63 rfl 0 rfl ?_
          refine s_callVi B hsc (c_X8_holdsChild l D g bo an ak bT hT ar bS bV th (av 1) ik n td z kd ka ho fa si kn aw ev cr tr lw q hs1 nu1 ss1 (by omega) (by omega)) (gw_V ml_X8_267 im_yX8_holdsChild se_yX8_holdsChild ini_RX8 co_yX8_holdsChild) hd_X8_holdsChild rfl rfl ⟨(Nat.le_of_ble_eq_true rfl), (Nat.le_of_ble_eq_true rfl)⟩ [0, 1, 2, 3, 4, 5, 6, 7, 8, 9, 10, 11, 12, 13, 16] [0, 1, 2, 3, 4] rfl rfl rfl (ci := 8) (q0 := 0) rfl rfl rfl rfl rfl (Nat.le_of_ble_eq_true rfl) dX8_taken_64 (fun r_16 u_17 hpo => ?_)
          obtain ⟨rfl, rfl⟩ := hpo
          refine s_st (st' := [.int (if hs1 = 0 ∧ (¬ nu1 < 0 ∧ nu1 < nI n) then 1 else 0)]) rfl ?_
          refine s_ws (ws' := [(bo, .inr (8, [.ref (an 0), .ref (ak 0), .int ik, .ref (bT), .ref (hT), .ref (ar 0), .ref (bS), .ref bV, .ref (th 0)])), (an 0, .inr (2, [.ref (an 1), .ref (an 2), .ref (an 3), .ref (an 4), .ref (an 5), .ref (an 6), .ref (an 7), .int (nI n), .ref (an 8), .ref (an 9), .ref (an 10), .ref (an 11), .int (nI td), .int z, .ref (an 12)])), (an 1, .inl (g 0, 8, .inl kd)), (an 2, .inl (g 0, 8, .inl ka)), (an 3, .inl (g 0, 8, .inl ho)), (an 4, .inl (g 0, 8, .inl fa)), (an 5, .inl (g 0, 8, .inl si)), (an 6, .inl (g 0, 8, .inl kn)), (an 7, .inl (g 0, 8, .inl aw)), (an 8, .inl (g 0, 40, .inl ev)), (an 9, .inl (g 0, 40, .inl cr)), (an 10, .inl (g 0, 40, .inl tr)), (an 11, .inl (g 0, 4, .inl lw)), (an 12, .inr (0, [.int (q 0), .int (q 1), .int (q 2), .int (q 3), .int (q 4), .int (q 5), .int (q 6), .int (q 7), .int (q 8)])), (bV, .inl (g 4, 4, .inr (.inr (.inr (.inr (fun j => some (av j))))))), (av 0, .inr (4, [.int hs0, .int nu0, .int ss0])), (av 1, .inr (4, [.int hs1, .int nu1, .int ss1])), (av 2, .inr (4, [.int hs2, .int nu2, .int ss2])), (av 3, .inr (4, [.int hs3, .int nu3, .int ss3]))]) rfl ?_
          refine s_bif_ne (tgt := 73) B dX8_taken_67 rfl (fun h67 => ?_) (fun h67 => ?_)
          · refine s_iload_n B dX8_taken_73 rfl 3 rfl ?_
            refine s_callSi B hsc (c_X8_isKind l D g x0) (gw_S ml_X8_88 sm_yX8_isKind ini_RX8 co_yX8_isKind) hd_X8_isKind rfl rfl ⟨(Nat.le_of_ble_eq_true rfl), (Nat.le_of_ble_eq_true rfl)⟩ [] [0, 1, 2, 3, 4] rfl rfl rfl rfl rfl (Nat.le_of_ble_eq_true rfl) dX8_taken_74 (fun r_18 u_19 hpo => ?_)
            obtain ⟨rfl, rfl⟩ := hpo
            refine s_st (st' := [.int (if ¬ x0 < 0 ∧ x0 < 6 then 1 else 0)]) rfl ?_
            refine s_ws (ws' := [(bo, .inr (8, [.ref (an 0), .ref (ak 0), .int ik, .ref (bT), .ref (hT), .ref (ar 0), .ref (bS), .ref bV, .ref (th 0)])), (an 0, .inr (2, [.ref (an 1), .ref (an 2), .ref (an 3), .ref (an 4), .ref (an 5), .ref (an 6), .ref (an 7), .int (nI n), .ref (an 8), .ref (an 9), .ref (an 10), .ref (an 11), .int (nI td), .int z, .ref (an 12)])), (an 1, .inl (g 0, 8, .inl kd)), (an 2, .inl (g 0, 8, .inl ka)), (an 3, .inl (g 0, 8, .inl ho)), (an 4, .inl (g 0, 8, .inl fa)), (an 5, .inl (g 0, 8, .inl si)), (an 6, .inl (g 0, 8, .inl kn)), (an 7, .inl (g 0, 8, .inl aw)), (an 8, .inl (g 0, 40, .inl ev)), (an 9, .inl (g 0, 40, .inl cr)), (an 10, .inl (g 0, 40, .inl tr)), (an 11, .inl (g 0, 4, .inl lw)), (an 12, .inr (0, [.int (q 0), .int (q 1), .int (q 2), .int (q 3), .int (q 4), .int (q 5), .int (q 6), .int (q 7), .int (q 8)])), (bV, .inl (g 4, 4, .inr (.inr (.inr (.inr (fun j => some (av j))))))), (av 0, .inr (4, [.int hs0, .int nu0, .int ss0])), (av 1, .inr (4, [.int hs1, .int nu1, .int ss1])), (av 2, .inr (4, [.int hs2, .int nu2, .int ss2])), (av 3, .inr (4, [.int hs3, .int nu3, .int ss3]))]) rfl ?_
            refine s_bif_eq (tgt := 106) B dX8_taken_77 rfl (fun h77 => ?_) (fun h77 => ?_)
            · refine s_bipush B dX8_taken_106 bp_m13 ?_
              refine s_iret B hQ hr dX8_taken_108 rfl ?_
              exact ⟨(tkC_k (G := (n, kd, ka, ho, fa, si, kn, aw, ev, cr, tr, lw, td, z)) (j := 1) (a := hs1) (b := nu1) (c := ss1) (by decide) hX_9 rfl rfl rfl h38 h67 h77), rfl⟩
            · obtain ⟨k_20, hk_21, rfl⟩ := nat_lt2 (N := 6) h77.1 h77.2 (by omega)
              obtain ⟨k_38, hk_39, rfl⟩ := nat_lt2 (N := n) h67.2.1 h67.2.2 (by omega)
              refine s_aload_n B dX8_taken_80 rfl 1 rfl ?_
              refine s_get (T := TX8) B inX8 0 rfl rfl 0 (Nat.le_of_ble_eq_true rfl) fl_X8_10 rfl rfl dX8_taken_81 ?_
              refine s_get (T := TX2) B inX2 1 rfl rfl 0 (Nat.le_of_ble_eq_true rfl) fl_X8_109 rfl rfl dX8_taken_84 ?_
              refine s_aload_n B dX8_taken_87 rfl 0 rfl ?_
              refine s_get (T := TX4) B inX4 16 rfl rfl 1 (Nat.le_of_ble_eq_true rfl) fl_X8_264 rfl rfl dX8_taken_88 ?_
              refine s_ialdN B 2 0 rfl rfl dX8_taken_91 (by omega) (by decide) ?_
              refine s_iload_n B dX8_taken_92 rfl 3 rfl ?_
              refine s_callSi B hsc (c_X8_isUnder l D g (kd k_38) (nI k_20)) (gw_S ml_X8_271 sm_yX8_isUnder ini_RX8 co_yX8_isUnder) hd_X8_isUnder rfl rfl ⟨(Nat.le_of_ble_eq_true rfl), (Nat.le_of_ble_eq_true rfl)⟩ [] [0, 1, 2, 3, 4] rfl rfl rfl rfl rfl (Nat.le_of_ble_eq_true rfl) dX8_taken_93 (fun r_40 u_41 hpo => ?_)
              obtain ⟨rfl, rfl⟩ := hpo
              refine s_st (st' := [.int (if mUd (nI k_20) 3 (kd k_38) = true then 1 else 0)]) rfl ?_
              refine s_ws (ws' := [(bo, .inr (8, [.ref (an 0), .ref (ak 0), .int ik, .ref (bT), .ref (hT), .ref (ar 0), .ref (bS), .ref bV, .ref (th 0)])), (an 0, .inr (2, [.ref (an 1), .ref (an 2), .ref (an 3), .ref (an 4), .ref (an 5), .ref (an 6), .ref (an 7), .int (nI n), .ref (an 8), .ref (an 9), .ref (an 10), .ref (an 11), .int (nI td), .int z, .ref (an 12)])), (an 1, .inl (g 0, 8, .inl kd)), (an 2, .inl (g 0, 8, .inl ka)), (an 3, .inl (g 0, 8, .inl ho)), (an 4, .inl (g 0, 8, .inl fa)), (an 5, .inl (g 0, 8, .inl si)), (an 6, .inl (g 0, 8, .inl kn)), (an 7, .inl (g 0, 8, .inl aw)), (an 8, .inl (g 0, 40, .inl ev)), (an 9, .inl (g 0, 40, .inl cr)), (an 10, .inl (g 0, 40, .inl tr)), (an 11, .inl (g 0, 4, .inl lw)), (an 12, .inr (0, [.int (q 0), .int (q 1), .int (q 2), .int (q 3), .int (q 4), .int (q 5), .int (q 6), .int (q 7), .int (q 8)])), (bV, .inl (g 4, 4, .inr (.inr (.inr (.inr (fun j => some (av j))))))), (av 0, .inr (4, [.int hs0, .int nu0, .int ss0])), (av 1, .inr (4, [.int hs1, .int (nI k_38), .int ss1])), (av 2, .inr (4, [.int hs2, .int nu2, .int ss2])), (av 3, .inr (4, [.int hs3, .int nu3, .int ss3]))]) rfl ?_
              refine s_bif_eq (tgt := 106) B dX8_taken_96 rfl (fun h96 => ?_) (fun h96 => ?_)
              · refine s_bipush B dX8_taken_106 bp_m13 ?_
                refine s_iret B hQ hr dX8_taken_108 rfl ?_
                exact ⟨(tkC_u (m := k_38) (G := (n, kd, ka, ho, fa, si, kn, aw, ev, cr, tr, lw, td, z)) (j := 1) (a := hs1) (b := (nI k_38)) (c := ss1) (by decide) hX_9 rfl rfl rfl h38 h67 (nI_clamp (by omega)) h96), rfl⟩
              · refine s_aload_n B dX8_taken_99 rfl 0 rfl ?_
                refine s_get (T := TX4) B inX4 16 rfl rfl 1 (Nat.le_of_ble_eq_true rfl) fl_X8_264 rfl rfl dX8_taken_100 ?_
                refine s_goto (tgt := 108) B dX8_taken_103 rfl ?_
                refine s_iret B hQ hr dX8_taken_108 rfl ?_
                exact ⟨(tkC_y (m := k_38) (G := (n, kd, ka, ho, fa, si, kn, aw, ev, cr, tr, lw, td, z)) (j := 1) (a := hs1) (b := (nI k_38)) (c := ss1) (by decide) hX_9 rfl rfl rfl h38 h67 h77 (nI_clamp (by omega)) h96), rfl⟩
          · refine s_bipush B dX8_taken_70 bp_m11 ?_
            refine s_iret B hQ hr dX8_taken_72 rfl ?_
            exact ⟨(tkC_n (G := (n, kd, ka, ho, fa, si, kn, aw, ev, cr, tr, lw, td, z)) (j := 1) (a := hs1) (b := nu1) (c := ss1) (by decide) hX_9 rfl rfl rfl h38 h67), rfl⟩
        · refine s_aload_n B dX8_taken_41 rfl 0 rfl ?_
          refine s_get (T := TX4) B inX4 16 rfl rfl 2 (Nat.le_of_ble_eq_true rfl) fl_X8_263 rfl rfl dX8_taken_42 ?_
          refine s_iload_n B dX8_taken_45 rfl 3 rfl ?_
          refine s_bipush B dX8_taken_46 bp_10 ?_
          refine s_isub B dX8_taken_48 ?_
          refine s_icmp_ne (tgt := 59) B dX8_taken_49 rfl (fun h49 => ?_) (fun h49 => ?_)
          · refine s_bipush B dX8_taken_59 bp_m13 ?_
            refine s_iret B hQ hr dX8_taken_61 rfl ?_
            exact ⟨(tkC_r (G := (n, kd, ka, ho, fa, si, kn, aw, ev, cr, tr, lw, td, z)) (j := 1) (a := hs1) (b := nu1) (c := ss1) (by decide) hX_9 rfl rfl rfl h38 h49), rfl⟩
          · refine s_aload_n B dX8_taken_52 rfl 0 rfl ?_
            refine s_get (T := TX4) B inX4 16 rfl rfl 1 (Nat.le_of_ble_eq_true rfl) fl_X8_264 rfl rfl dX8_taken_53 ?_
            refine s_goto (tgt := 61) B dX8_taken_56 rfl ?_
            refine s_iret B hQ hr dX8_taken_61 rfl ?_
            exact ⟨(tkC_s (G := (n, kd, ka, ho, fa, si, kn, aw, ev, cr, tr, lw, td, z)) (j := 1) (a := hs1) (b := nu1) (c := ss1) (by decide) hX_9 rfl rfl rfl h38 h49), rfl⟩
      · refine s_aldqN B 14 4 rfl rfl dX8_taken_31 (by omega) (by decide) rfl ?_
        refine s_astore_n (lv' := [(3, _), (0, _), (1, _), (2, _)]) B dX8_taken_32 rfl (Nat.le_of_ble_eq_true rfl) rfl ?_
        refine s_aload_n B dX8_taken_33 rfl 0 rfl ?_
        refine s_get (T := TX4) B inX4 17 rfl rfl 0 (Nat.le_of_ble_eq_true rfl) fl_X8_260 rfl rfl dX8_taken_34 ?_
        refine s_iconst B dX8_taken_37 ic_1 ?_
        refine s_icmp_ne (tgt := 62) B dX8_taken_38 rfl (fun h38 => ?_) (fun h38 => ?_)
        · refine s_aload_n B dX8_taken_62 rfl 1 rfl ?_
          refine s_aload_n B dX8_taken_63 rfl 0 rfl ?_
          refine s_callVi B hsc (c_X8_holdsChild l D g bo an ak bT hT ar bS bV th (av 2) ik n td z kd ka ho fa si kn aw ev cr tr lw q hs2 nu2 ss2 (by omega) (by omega)) (gw_V ml_X8_267 im_yX8_holdsChild se_yX8_holdsChild ini_RX8 co_yX8_holdsChild) hd_X8_holdsChild rfl rfl ⟨(Nat.le_of_ble_eq_true rfl), (Nat.le_of_ble_eq_true rfl)⟩ [0, 1, 2, 3, 4, 5, 6, 7, 8, 9, 10, 11, 12, 13, 17] [0, 1, 2, 3, 4] rfl rfl rfl (ci := 8) (q0 := 0) rfl rfl rfl rfl rfl (Nat.le_of_ble_eq_true rfl) dX8_taken_64 (fun r_22 u_23 hpo => ?_)
          obtain ⟨rfl, rfl⟩ := hpo
          refine s_st (st' := [.int (if hs2 = 0 ∧ (¬ nu2 < 0 ∧ nu2 < nI n) then 1 else 0)]) rfl ?_
          refine s_ws (ws' := [(bo, .inr (8, [.ref (an 0), .ref (ak 0), .int ik, .ref (bT), .ref (hT), .ref (ar 0), .ref (bS), .ref bV, .ref (th 0)])), (an 0, .inr (2, [.ref (an 1), .ref (an 2), .ref (an 3), .ref (an 4), .ref (an 5), .ref (an 6), .ref (an 7), .int (nI n), .ref (an 8), .ref (an 9), .ref (an 10), .ref (an 11), .int (nI td), .int z, .ref (an 12)])), (an 1, .inl (g 0, 8, .inl kd)), (an 2, .inl (g 0, 8, .inl ka)), (an 3, .inl (g 0, 8, .inl ho)), (an 4, .inl (g 0, 8, .inl fa)), (an 5, .inl (g 0, 8, .inl si)), (an 6, .inl (g 0, 8, .inl kn)), (an 7, .inl (g 0, 8, .inl aw)), (an 8, .inl (g 0, 40, .inl ev)), (an 9, .inl (g 0, 40, .inl cr)), (an 10, .inl (g 0, 40, .inl tr)), (an 11, .inl (g 0, 4, .inl lw)), (an 12, .inr (0, [.int (q 0), .int (q 1), .int (q 2), .int (q 3), .int (q 4), .int (q 5), .int (q 6), .int (q 7), .int (q 8)])), (bV, .inl (g 4, 4, .inr (.inr (.inr (.inr (fun j => some (av j))))))), (av 0, .inr (4, [.int hs0, .int nu0, .int ss0])), (av 1, .inr (4, [.int hs1, .int nu1, .int ss1])), (av 2, .inr (4, [.int hs2, .int nu2, .int ss2])), (av 3, .inr (4, [.int hs3, .int nu3, .int ss3]))]) rfl ?_
          refine s_bif_ne (tgt := 73) B dX8_taken_67 rfl (fun h67 => ?_) (fun h67 => ?_)
          · refine s_iload_n B dX8_taken_73 rfl 3 rfl ?_
            refine s_callSi B hsc (c_X8_isKind l D g x0) (gw_S ml_X8_88 sm_yX8_isKind ini_RX8 co_yX8_isKind) hd_X8_isKind rfl rfl ⟨(Nat.le_of_ble_eq_true rfl), (Nat.le_of_ble_eq_true rfl)⟩ [] [0, 1, 2, 3, 4] rfl rfl rfl rfl rfl (Nat.le_of_ble_eq_true rfl) dX8_taken_74 (fun r_24 u_25 hpo => ?_)
            obtain ⟨rfl, rfl⟩ := hpo
            refine s_st (st' := [.int (if ¬ x0 < 0 ∧ x0 < 6 then 1 else 0)]) rfl ?_
            refine s_ws (ws' := [(bo, .inr (8, [.ref (an 0), .ref (ak 0), .int ik, .ref (bT), .ref (hT), .ref (ar 0), .ref (bS), .ref bV, .ref (th 0)])), (an 0, .inr (2, [.ref (an 1), .ref (an 2), .ref (an 3), .ref (an 4), .ref (an 5), .ref (an 6), .ref (an 7), .int (nI n), .ref (an 8), .ref (an 9), .ref (an 10), .ref (an 11), .int (nI td), .int z, .ref (an 12)])), (an 1, .inl (g 0, 8, .inl kd)), (an 2, .inl (g 0, 8, .inl ka)), (an 3, .inl (g 0, 8, .inl ho)), (an 4, .inl (g 0, 8, .inl fa)), (an 5, .inl (g 0, 8, .inl si)), (an 6, .inl (g 0, 8, .inl kn)), (an 7, .inl (g 0, 8, .inl aw)), (an 8, .inl (g 0, 40, .inl ev)), (an 9, .inl (g 0, 40, .inl cr)), (an 10, .inl (g 0, 40, .inl tr)), (an 11, .inl (g 0, 4, .inl lw)), (an 12, .inr (0, [.int (q 0), .int (q 1), .int (q 2), .int (q 3), .int (q 4), .int (q 5), .int (q 6), .int (q 7), .int (q 8)])), (bV, .inl (g 4, 4, .inr (.inr (.inr (.inr (fun j => some (av j))))))), (av 0, .inr (4, [.int hs0, .int nu0, .int ss0])), (av 1, .inr (4, [.int hs1, .int nu1, .int ss1])), (av 2, .inr (4, [.int hs2, .int nu2, .int ss2])), (av 3, .inr (4, [.int hs3, .int nu3, .int ss3]))]) rfl ?_
            refine s_bif_eq (tgt := 106) B dX8_taken_77 rfl (fun h77 => ?_) (fun h77 => ?_)
            · refine s_bipush B dX8_taken_106 bp_m13 ?_
              refine s_iret B hQ hr dX8_taken_108 rfl ?_
              exact ⟨(tkC_k (G := (n, kd, ka, ho, fa, si, kn, aw, ev, cr, tr, lw, td, z)) (j := 2) (a := hs2) (b := nu2) (c := ss2) (by decide) hX_9 rfl rfl rfl h38 h67 h77), rfl⟩
            · obtain ⟨k_26, hk_27, rfl⟩ := nat_lt2 (N := 6) h77.1 h77.2 (by omega)
              obtain ⟨k_42, hk_43, rfl⟩ := nat_lt2 (N := n) h67.2.1 h67.2.2 (by omega)
              refine s_aload_n B dX8_taken_80 rfl 1 rfl ?_
              refine s_get (T := TX8) B inX8 0 rfl rfl 0 (Nat.le_of_ble_eq_true rfl) fl_X8_10 rfl rfl dX8_taken_81 ?_
              refine s_get (T := TX2) B inX2 1 rfl rfl 0 (Nat.le_of_ble_eq_true rfl) fl_X8_109 rfl rfl dX8_taken_84 ?_
              refine s_aload_n B dX8_taken_87 rfl 0 rfl ?_
              refine s_get (T := TX4) B inX4 17 rfl rfl 1 (Nat.le_of_ble_eq_true rfl) fl_X8_264 rfl rfl dX8_taken_88 ?_
              refine s_ialdN B 2 0 rfl rfl dX8_taken_91 (by omega) (by decide) ?_
              refine s_iload_n B dX8_taken_92 rfl 3 rfl ?_
              refine s_callSi B hsc (c_X8_isUnder l D g (kd k_42) (nI k_26)) (gw_S ml_X8_271 sm_yX8_isUnder ini_RX8 co_yX8_isUnder) hd_X8_isUnder rfl rfl ⟨(Nat.le_of_ble_eq_true rfl), (Nat.le_of_ble_eq_true rfl)⟩ [] [0, 1, 2, 3, 4] rfl rfl rfl rfl rfl (Nat.le_of_ble_eq_true rfl) dX8_taken_93 (fun r_44 u_45 hpo => ?_)
              obtain ⟨rfl, rfl⟩ := hpo
              refine s_st (st' := [.int (if mUd (nI k_26) 3 (kd k_42) = true then 1 else 0)]) rfl ?_
              refine s_ws (ws' := [(bo, .inr (8, [.ref (an 0), .ref (ak 0), .int ik, .ref (bT), .ref (hT), .ref (ar 0), .ref (bS), .ref bV, .ref (th 0)])), (an 0, .inr (2, [.ref (an 1), .ref (an 2), .ref (an 3), .ref (an 4), .ref (an 5), .ref (an 6), .ref (an 7), .int (nI n), .ref (an 8), .ref (an 9), .ref (an 10), .ref (an 11), .int (nI td), .int z, .ref (an 12)])), (an 1, .inl (g 0, 8, .inl kd)), (an 2, .inl (g 0, 8, .inl ka)), (an 3, .inl (g 0, 8, .inl ho)), (an 4, .inl (g 0, 8, .inl fa)), (an 5, .inl (g 0, 8, .inl si)), (an 6, .inl (g 0, 8, .inl kn)), (an 7, .inl (g 0, 8, .inl aw)), (an 8, .inl (g 0, 40, .inl ev)), (an 9, .inl (g 0, 40, .inl cr)), (an 10, .inl (g 0, 40, .inl tr)), (an 11, .inl (g 0, 4, .inl lw)), (an 12, .inr (0, [.int (q 0), .int (q 1), .int (q 2), .int (q 3), .int (q 4), .int (q 5), .int (q 6), .int (q 7), .int (q 8)])), (bV, .inl (g 4, 4, .inr (.inr (.inr (.inr (fun j => some (av j))))))), (av 0, .inr (4, [.int hs0, .int nu0, .int ss0])), (av 1, .inr (4, [.int hs1, .int nu1, .int ss1])), (av 2, .inr (4, [.int hs2, .int (nI k_42), .int ss2])), (av 3, .inr (4, [.int hs3, .int nu3, .int ss3]))]) rfl ?_
              refine s_bif_eq (tgt := 106) B dX8_taken_96 rfl (fun h96 => ?_) (fun h96 => ?_)
              · refine s_bipush B dX8_taken_106 bp_m13 ?_
                refine s_iret B hQ hr dX8_taken_108 rfl ?_
                exact ⟨(tkC_u (m := k_42) (G := (n, kd, ka, ho, fa, si, kn, aw, ev, cr, tr, lw, td, z)) (j := 2) (a := hs2) (b := (nI k_42)) (c := ss2) (by decide) hX_9 rfl rfl rfl h38 h67 (nI_clamp (by omega)) h96), rfl⟩
              · refine s_aload_n B dX8_taken_99 rfl 0 rfl ?_
                refine s_get (T := TX4) B inX4 17 rfl rfl 1 (Nat.le_of_ble_eq_true rfl) fl_X8_264 rfl rfl dX8_taken_100 ?_
                refine s_goto (tgt := 108) B dX8_taken_103 rfl ?_
                refine s_iret B hQ hr dX8_taken_108 rfl ?_
                exact ⟨(tkC_y (m := k_42) (G := (n, kd, ka, ho, fa, si, kn, aw, ev, cr, tr, lw, td, z)) (j := 2) (a := hs2) (b := (nI k_42)) (c := ss2) (by decide) hX_9 rfl rfl rfl h38 h67 h77 (nI_clamp (by omega)) h96), rfl⟩
          · refine s_bipush B dX8_taken_70 bp_m11 ?_
            refine s_iret B hQ hr dX8_taken_72 rfl ?_
            exact ⟨(tkC_n (G := (n, kd, ka, ho, fa, si, kn, aw, ev, cr, tr, lw, td, z)) (j := 2) (a := hs2) (b := nu2) (c := ss2) (by decide) hX_9 rfl rfl rfl h38 h67), rfl⟩
        · refine s_aload_n B dX8_taken_41 rfl 0 rfl ?_
          refine s_get (T := TX4) B inX4 17 rfl rfl 2 (Nat.le_of_ble_eq_true rfl) fl_X8_263 rfl rfl dX8_taken_42 ?_
          refine s_iload_n B dX8_taken_45 rfl 3 rfl ?_
          refine s_bipush B dX8_taken_46 bp_10 ?_
          refine s_isub B dX8_taken_48 ?_
          refine s_icmp_ne (tgt := 59) B dX8_taken_49 rfl (fun h49 => ?_) (fun h49 => ?_)
          · refine s_bipush B dX8_taken_59 bp_m13 ?_
            refine s_iret B hQ hr dX8_taken_61 rfl ?_
            exact ⟨(tkC_r (G := (n, kd, ka, ho, fa, si, kn, aw, ev, cr, tr, lw, td, z)) (j := 2) (a := hs2) (b := nu2) (c := ss2) (by decide) hX_9 rfl rfl rfl h38 h49), rfl⟩
          · refine s_aload_n B dX8_taken_52 rfl 0 rfl ?_
            refine s_get (T := TX4) B inX4 17 rfl rfl 1 (Nat.le_of_ble_eq_true rfl) fl_X8_264 rfl rfl dX8_taken_53 ?_
            refine s_goto (tgt := 61) B dX8_taken_56 rfl ?_
            refine s_iret B hQ hr dX8_taken_61 rfl ?_
            exact ⟨(tkC_s (G := (n, kd, ka, ho, fa, si, kn, aw, ev, cr, tr, lw, td, z)) (j := 2) (a := hs2) (b := nu2) (c := ss2) (by decide) hX_9 rfl rfl rfl h38 h49), rfl⟩
      · refine s_aldqN B 14 4 rfl rfl dX8_taken_31 (by omega) (by decide) rfl ?_
        refine s_astore_n (lv' := [(3, _), (0, _), (1, _), (2, _)]) B dX8_taken_32 rfl (Nat.le_of_ble_eq_true rfl) rfl ?_
        refine s_aload_n B dX8_taken_33 rfl 0 rfl ?_
        refine s_get (T := TX4) B inX4 18 rfl rfl 0 (Nat.le_of_ble_eq_true rfl) fl_X8_260 rfl rfl dX8_taken_34 ?_
        refine s_iconst B dX8_taken_37 ic_1 ?_
        refine s_icmp_ne (tgt := 62) B dX8_taken_38 rfl (fun h38 => ?_) (fun h38 => ?_)
        · refine s_aload_n B dX8_taken_62 rfl 1 rfl ?_
          refine s_aload_n B dX8_taken_63 rfl 0 rfl ?_
          refine s_callVi B hsc (c_X8_holdsChild l D g bo an ak bT hT ar bS bV th (av 3) ik n td z kd ka ho fa si kn aw ev cr tr lw q hs3 nu3 ss3 (by omega) (by omega)) (gw_V ml_X8_267 im_yX8_holdsChild se_yX8_holdsChild ini_RX8 co_yX8_holdsChild) hd_X8_holdsChild rfl rfl ⟨(Nat.le_of_ble_eq_true rfl), (Nat.le_of_ble_eq_true rfl)⟩ [0, 1, 2, 3, 4, 5, 6, 7, 8, 9, 10, 11, 12, 13, 18] [0, 1, 2, 3, 4] rfl rfl rfl (ci := 8) (q0 := 0) rfl rfl rfl rfl rfl (Nat.le_of_ble_eq_true rfl) dX8_taken_64 (fun r_28 u_29 hpo => ?_)
          obtain ⟨rfl, rfl⟩ := hpo
          refine s_st (st' := [.int (if hs3 = 0 ∧ (¬ nu3 < 0 ∧ nu3 < nI n) then 1 else 0)]) rfl ?_
          refine s_ws (ws' := [(bo, .inr (8, [.ref (an 0), .ref (ak 0), .int ik, .ref (bT), .ref (hT), .ref (ar 0), .ref (bS), .ref bV, .ref (th 0)])), (an 0, .inr (2, [.ref (an 1), .ref (an 2), .ref (an 3), .ref (an 4), .ref (an 5), .ref (an 6), .ref (an 7), .int (nI n), .ref (an 8), .ref (an 9), .ref (an 10), .ref (an 11), .int (nI td), .int z, .ref (an 12)])), (an 1, .inl (g 0, 8, .inl kd)), (an 2, .inl (g 0, 8, .inl ka)), (an 3, .inl (g 0, 8, .inl ho)), (an 4, .inl (g 0, 8, .inl fa)), (an 5, .inl (g 0, 8, .inl si)), (an 6, .inl (g 0, 8, .inl kn)), (an 7, .inl (g 0, 8, .inl aw)), (an 8, .inl (g 0, 40, .inl ev)), (an 9, .inl (g 0, 40, .inl cr)), (an 10, .inl (g 0, 40, .inl tr)), (an 11, .inl (g 0, 4, .inl lw)), (an 12, .inr (0, [.int (q 0), .int (q 1), .int (q 2), .int (q 3), .int (q 4), .int (q 5), .int (q 6), .int (q 7), .int (q 8)])), (bV, .inl (g 4, 4, .inr (.inr (.inr (.inr (fun j => some (av j))))))), (av 0, .inr (4, [.int hs0, .int nu0, .int ss0])), (av 1, .inr (4, [.int hs1, .int nu1, .int ss1])), (av 2, .inr (4, [.int hs2, .int nu2, .int ss2])), (av 3, .inr (4, [.int hs3, .int nu3, .int ss3]))]) rfl ?_
          refine s_bif_ne (tgt := 73) B dX8_taken_67 rfl (fun h67 => ?_) (fun h67 => ?_)
          · refine s_iload_n B dX8_taken_73 rfl 3 rfl ?_
            refine s_callSi B hsc (c_X8_isKind l D g x0) (gw_S ml_X8_88 sm_yX8_isKind ini_RX8 co_yX8_isKind) hd_X8_isKind rfl rfl ⟨(Nat.le_of_ble_eq_true rfl), (Nat.le_of_ble_eq_true rfl)⟩ [] [0, 1, 2, 3, 4] rfl rfl rfl rfl rfl (Nat.le_of_ble_eq_true rfl) dX8_taken_74 (fun r_30 u_31 hpo => ?_)
            obtain ⟨rfl, rfl⟩ := hpo
            refine s_st (st' := [.int (if ¬ x0 < 0 ∧ x0 < 6 then 1 else 0)]) rfl ?_
            refine s_ws (ws' := [(bo, .inr (8, [.ref (an 0), .ref (ak 0), .int ik, .ref (bT), .ref (hT), .ref (ar 0), .ref (bS), .ref bV, .ref (th 0)])), (an 0, .inr (2, [.ref (an 1), .ref (an 2), .ref (an 3), .ref (an 4), .ref (an 5), .ref (an 6), .ref (an 7), .int (nI n), .ref (an 8), .ref (an 9), .ref (an 10), .ref (an 11), .int (nI td), .int z, .ref (an 12)])), (an 1, .inl (g 0, 8, .inl kd)), (an 2, .inl (g 0, 8, .inl ka)), (an 3, .inl (g 0, 8, .inl ho)), (an 4, .inl (g 0, 8, .inl fa)), (an 5, .inl (g 0, 8, .inl si)), (an 6, .inl (g 0, 8, .inl kn)), (an 7, .inl (g 0, 8, .inl aw)), (an 8, .inl (g 0, 40, .inl ev)), (an 9, .inl (g 0, 40, .inl cr)), (an 10, .inl (g 0, 40, .inl tr)), (an 11, .inl (g 0, 4, .inl lw)), (an 12, .inr (0, [.int (q 0), .int (q 1), .int (q 2), .int (q 3), .int (q 4), .int (q 5), .int (q 6), .int (q 7), .int (q 8)])), (bV, .inl (g 4, 4, .inr (.inr (.inr (.inr (fun j => some (av j))))))), (av 0, .inr (4, [.int hs0, .int nu0, .int ss0])), (av 1, .inr (4, [.int hs1, .int nu1, .int ss1])), (av 2, .inr (4, [.int hs2, .int nu2, .int ss2])), (av 3, .inr (4, [.int hs3, .int nu3, .int ss3]))]) rfl ?_
            refine s_bif_eq (tgt := 106) B dX8_taken_77 rfl (fun h77 => ?_) (fun h77 => ?_)
            · refine s_bipush B dX8_taken_106 bp_m13 ?_
              refine s_iret B hQ hr dX8_taken_108 rfl ?_
              exact ⟨(tkC_k (G := (n, kd, ka, ho, fa, si, kn, aw, ev, cr, tr, lw, td, z)) (j := 3) (a := hs3) (b := nu3) (c := ss3) (by decide) hX_9 rfl rfl rfl h38 h67 h77), rfl⟩
            · obtain ⟨k_32, hk_33, rfl⟩ := nat_lt2 (N := 6) h77.1 h77.2 (by omega)
              obtain ⟨k_46, hk_47, rfl⟩ := nat_lt2 (N := n) h67.2.1 h67.2.2 (by omega)
              refine s_aload_n B dX8_taken_80 rfl 1 rfl ?_
              refine s_get (T := TX8) B inX8 0 rfl rfl 0 (Nat.le_of_ble_eq_true rfl) fl_X8_10 rfl rfl dX8_taken_81 ?_
              refine s_get (T := TX2) B inX2 1 rfl rfl 0 (Nat.le_of_ble_eq_true rfl) fl_X8_109 rfl rfl dX8_taken_84 ?_
              refine s_aload_n B dX8_taken_87 rfl 0 rfl ?_
              refine s_get (T := TX4) B inX4 18 rfl rfl 1 (Nat.le_of_ble_eq_true rfl) fl_X8_264 rfl rfl dX8_taken_88 ?_
              refine s_ialdN B 2 0 rfl rfl dX8_taken_91 (by omega) (by decide) ?_
              refine s_iload_n B dX8_taken_92 rfl 3 rfl ?_
              refine s_callSi B hsc (c_X8_isUnder l D g (kd k_46) (nI k_32)) (gw_S ml_X8_271 sm_yX8_isUnder ini_RX8 co_yX8_isUnder) hd_X8_isUnder rfl rfl ⟨(Nat.le_of_ble_eq_true rfl), (Nat.le_of_ble_eq_true rfl)⟩ [] [0, 1, 2, 3, 4] rfl rfl rfl rfl rfl (Nat.le_of_ble_eq_true rfl) dX8_taken_93 (fun r_48 u_49 hpo => ?_)
              obtain ⟨rfl, rfl⟩ := hpo
              refine s_st (st' := [.int (if mUd (nI k_32) 3 (kd k_46) = true then 1 else 0)]) rfl ?_
              refine s_ws (ws' := [(bo, .inr (8, [.ref (an 0), .ref (ak 0), .int ik, .ref (bT), .ref (hT), .ref (ar 0), .ref (bS), .ref bV, .ref (th 0)])), (an 0, .inr (2, [.ref (an 1), .ref (an 2), .ref (an 3), .ref (an 4), .ref (an 5), .ref (an 6), .ref (an 7), .int (nI n), .ref (an 8), .ref (an 9), .ref (an 10), .ref (an 11), .int (nI td), .int z, .ref (an 12)])), (an 1, .inl (g 0, 8, .inl kd)), (an 2, .inl (g 0, 8, .inl ka)), (an 3, .inl (g 0, 8, .inl ho)), (an 4, .inl (g 0, 8, .inl fa)), (an 5, .inl (g 0, 8, .inl si)), (an 6, .inl (g 0, 8, .inl kn)), (an 7, .inl (g 0, 8, .inl aw)), (an 8, .inl (g 0, 40, .inl ev)), (an 9, .inl (g 0, 40, .inl cr)), (an 10, .inl (g 0, 40, .inl tr)), (an 11, .inl (g 0, 4, .inl lw)), (an 12, .inr (0, [.int (q 0), .int (q 1), .int (q 2), .int (q 3), .int (q 4), .int (q 5), .int (q 6), .int (q 7), .int (q 8)])), (bV, .inl (g 4, 4, .inr (.inr (.inr (.inr (fun j => some (av j))))))), (av 0, .inr (4, [.int hs0, .int nu0, .int ss0])), (av 1, .inr (4, [.int hs1, .int nu1, .int ss1])), (av 2, .inr (4, [.int hs2, .int nu2, .int ss2])), (av 3, .inr (4, [.int hs3, .int (nI k_46), .int ss3]))]) rfl ?_
              refine s_bif_eq (tgt := 106) B dX8_taken_96 rfl (fun h96 => ?_) (fun h96 => ?_)
              · refine s_bipush B dX8_taken_106 bp_m13 ?_
                refine s_iret B hQ hr dX8_taken_108 rfl ?_
                exact ⟨(tkC_u (m := k_46) (G := (n, kd, ka, ho, fa, si, kn, aw, ev, cr, tr, lw, td, z)) (j := 3) (a := hs3) (b := (nI k_46)) (c := ss3) (by decide) hX_9 rfl rfl rfl h38 h67 (nI_clamp (by omega)) h96), rfl⟩
              · refine s_aload_n B dX8_taken_99 rfl 0 rfl ?_
                refine s_get (T := TX4) B inX4 18 rfl rfl 1 (Nat.le_of_ble_eq_true rfl) fl_X8_264 rfl rfl dX8_taken_100 ?_
                refine s_goto (tgt := 108) B dX8_taken_103 rfl ?_
                refine s_iret B hQ hr dX8_taken_108 rfl ?_
                exact ⟨(tkC_y (m := k_46) (G := (n, kd, ka, ho, fa, si, kn, aw, ev, cr, tr, lw, td, z)) (j := 3) (a := hs3) (b := (nI k_46)) (c := ss3) (by decide) hX_9 rfl rfl rfl h38 h67 h77 (nI_clamp (by omega)) h96), rfl⟩
          · refine s_bipush B dX8_taken_70 bp_m11 ?_
            refine s_iret B hQ hr dX8_taken_72 rfl ?_
            exact ⟨(tkC_n (G := (n, kd, ka, ho, fa, si, kn, aw, ev, cr, tr, lw, td, z)) (j := 3) (a := hs3) (b := nu3) (c := ss3) (by decide) hX_9 rfl rfl rfl h38 h67), rfl⟩
        · refine s_aload_n B dX8_taken_41 rfl 0 rfl ?_
          refine s_get (T := TX4) B inX4 18 rfl rfl 2 (Nat.le_of_ble_eq_true rfl) fl_X8_263 rfl rfl dX8_taken_42 ?_
          refine s_iload_n B dX8_taken_45 rfl 3 rfl ?_
          refine s_bipush B dX8_taken_46 bp_10 ?_
          refine s_isub B dX8_taken_48 ?_
          refine s_icmp_ne (tgt := 59) B dX8_taken_49 rfl (fun h49 => ?_) (fun h49 => ?_)
          · refine s_bipush B dX8_taken_59 bp_m13 ?_
            refine s_iret B hQ hr dX8_taken_61 rfl ?_
            exact ⟨(tkC_r (G := (n, kd, ka, ho, fa, si, kn, aw, ev, cr, tr, lw, td, z)) (j := 3) (a := hs3) (b := nu3) (c := ss3) (by decide) hX_9 rfl rfl rfl h38 h49), rfl⟩
          · refine s_aload_n B dX8_taken_52 rfl 0 rfl ?_
            refine s_get (T := TX4) B inX4 18 rfl rfl 1 (Nat.le_of_ble_eq_true rfl) fl_X8_264 rfl rfl dX8_taken_53 ?_
            refine s_goto (tgt := 61) B dX8_taken_56 rfl ?_
            refine s_iret B hQ hr dX8_taken_61 rfl ?_
            exact ⟨(tkC_s (G := (n, kd, ka, ho, fa, si, kn, aw, ev, cr, tr, lw, td, z)) (j := 3) (a := hs3) (b := nu3) (c := ss3) (by decide) hX_9 rfl rfl rfl h38 h49), rfl⟩
    refine s_iload_n B dX8_taken_7 rfl 2 rfl ?_
    refine s_callSi B hsc (c_X8_isKind l D g x0) (gw_S ml_X8_88 sm_yX8_isKind ini_RX8 co_yX8_isKind) hd_X8_isKind rfl rfl ⟨(Nat.le_of_ble_eq_true rfl), (Nat.le_of_ble_eq_true rfl)⟩ [] [0, 1, 2, 3, 4] rfl rfl rfl rfl rfl (Nat.le_of_ble_eq_true rfl) dX8_taken_8 (fun r_5 u_6 hpo => ?_)
    obtain ⟨rfl, rfl⟩ := hpo
    refine s_st (st' := [.int (if ¬ x0 < 0 ∧ x0 < 6 then 1 else 0)]) rfl ?_
    refine s_ws (ws' := [(bo, .inr (8, [.ref (an 0), .ref (ak 0), .int ik, .ref (bT), .ref (hT), .ref (ar 0), .ref (bS), .ref bV, .ref (th 0)])), (an 0, .inr (2, [.ref (an 1), .ref (an 2), .ref (an 3), .ref (an 4), .ref (an 5), .ref (an 6), .ref (an 7), .int (nI n), .ref (an 8), .ref (an 9), .ref (an 10), .ref (an 11), .int (nI td), .int z, .ref (an 12)])), (an 1, .inl (g 0, 8, .inl kd)), (an 2, .inl (g 0, 8, .inl ka)), (an 3, .inl (g 0, 8, .inl ho)), (an 4, .inl (g 0, 8, .inl fa)), (an 5, .inl (g 0, 8, .inl si)), (an 6, .inl (g 0, 8, .inl kn)), (an 7, .inl (g 0, 8, .inl aw)), (an 8, .inl (g 0, 40, .inl ev)), (an 9, .inl (g 0, 40, .inl cr)), (an 10, .inl (g 0, 40, .inl tr)), (an 11, .inl (g 0, 4, .inl lw)), (an 12, .inr (0, [.int (q 0), .int (q 1), .int (q 2), .int (q 3), .int (q 4), .int (q 5), .int (q 6), .int (q 7), .int (q 8)])), (bV, .inl (g 4, 4, .inr (.inr (.inr (.inr (fun j => some (av j))))))), (av 0, .inr (4, [.int hs0, .int nu0, .int ss0])), (av 1, .inr (4, [.int hs1, .int nu1, .int ss1])), (av 2, .inr (4, [.int hs2, .int nu2, .int ss2])), (av 3, .inr (4, [.int hs3, .int nu3, .int ss3]))]) rfl ?_
    refine s_bif_ne (tgt := 26) B dX8_taken_11 rfl (fun h11 => ?_) (fun h11 => ?_)
    · refine s_lv (lv' := [(0, _), (1, _), (2, _)]) [0, 1, 2] rfl ?_
      exact M26  hb_n hb_td h4 hk_4 (by first | exact Or.inl (by assumption) | exact Or.inr (by assumption))
    · refine s_iload_n B dX8_taken_14 rfl 2 rfl ?_
      refine s_bipush B dX8_taken_15 bp_10 ?_
      refine s_isub B dX8_taken_17 ?_
      refine s_callSi B hsc (c_X8_isSort l D g (x0 - 10)) (gw_S ml_X8_247 sm_yX8_isSort ini_RX8 co_yX8_isSort) hd_X8_isSort rfl rfl ⟨(Nat.le_of_ble_eq_true rfl), (Nat.le_of_ble_eq_true rfl)⟩ [] [0, 1, 2, 3, 4] rfl rfl rfl rfl rfl (Nat.le_of_ble_eq_true rfl) dX8_taken_18 (fun r_7 u_8 hpo => ?_)
      obtain ⟨rfl, rfl⟩ := hpo
      refine s_st (st' := [.int (if ¬ (x0 - 10) < 0 ∧ (x0 - 10) < 4 then 1 else 0)]) rfl ?_
      refine s_ws (ws' := [(bo, .inr (8, [.ref (an 0), .ref (ak 0), .int ik, .ref (bT), .ref (hT), .ref (ar 0), .ref (bS), .ref bV, .ref (th 0)])), (an 0, .inr (2, [.ref (an 1), .ref (an 2), .ref (an 3), .ref (an 4), .ref (an 5), .ref (an 6), .ref (an 7), .int (nI n), .ref (an 8), .ref (an 9), .ref (an 10), .ref (an 11), .int (nI td), .int z, .ref (an 12)])), (an 1, .inl (g 0, 8, .inl kd)), (an 2, .inl (g 0, 8, .inl ka)), (an 3, .inl (g 0, 8, .inl ho)), (an 4, .inl (g 0, 8, .inl fa)), (an 5, .inl (g 0, 8, .inl si)), (an 6, .inl (g 0, 8, .inl kn)), (an 7, .inl (g 0, 8, .inl aw)), (an 8, .inl (g 0, 40, .inl ev)), (an 9, .inl (g 0, 40, .inl cr)), (an 10, .inl (g 0, 40, .inl tr)), (an 11, .inl (g 0, 4, .inl lw)), (an 12, .inr (0, [.int (q 0), .int (q 1), .int (q 2), .int (q 3), .int (q 4), .int (q 5), .int (q 6), .int (q 7), .int (q 8)])), (bV, .inl (g 4, 4, .inr (.inr (.inr (.inr (fun j => some (av j))))))), (av 0, .inr (4, [.int hs0, .int nu0, .int ss0])), (av 1, .inr (4, [.int hs1, .int nu1, .int ss1])), (av 2, .inr (4, [.int hs2, .int nu2, .int ss2])), (av 3, .inr (4, [.int hs3, .int nu3, .int ss3]))]) rfl ?_
      refine s_bif_ne (tgt := 26) B dX8_taken_21 rfl (fun h21 => ?_) (fun h21 => ?_)
      · refine s_lv (lv' := [(0, _), (1, _), (2, _)]) [0, 1, 2] rfl ?_
        exact M26  hb_n hb_td h4 hk_4 (by first | exact Or.inl (by assumption) | exact Or.inr (by assumption))
      · refine s_iconst B dX8_taken_24 ic_m1 ?_
        refine s_iret B hQ hr dX8_taken_25 rfl ?_
        exact ⟨(tkC_no (G := (n, kd, ka, ho, fa, si, kn, aw, ev, cr, tr, lw, td, z)) (by first | exact Or.inl (by assumption) | exact Or.inr ⟨by assumption, by assumption⟩)), rfl⟩
def rmX8_act : Room := { frames := 68, cells := 0, slots := 0, locals := 1639 }
theorem hd_X8_act : yX8_act.cls = RX8 ∧ yX8_act.cls ≠ "java/lang/invoke/MethodHandle" ∧ yX8_act.cls ≠ "java/lang/invoke/VarHandle" ∧ (parseMethodDescriptor yX8_act.desc).map (fun d => d.parameters.length) = some 3 := by decide +kernel
set_option maxHeartbeats 4000000 in
set_option maxRecDepth 100000 in
theorem c_X8_act (l : Launch) (D : va_G) (g : Nat → ClassId) (bo : Nat) (an : Nat → Nat) (ak : Nat → Nat) (bT : Nat) (hT : Nat) (ar : Nat → Nat) (bS : Nat) (bV : Nat) (th : Nat → Nat) (av : Nat → Nat) (ik : Int32) (n : Nat) (td : Nat) (z : Int32) (kd : Nat → Int32) (ka : Nat → Int32) (ho : Nat → Int32) (fa : Nat → Int32) (si : Nat → Int32) (kn : Nat → Int32) (aw : Nat → Int32) (ev : Nat → Int32) (cr : Nat → Int32) (tr : Nat → Int32) (lw : Nat → Int32) (q : Nat → Int32) (hs0 : Int32) (nu0 : Int32) (ss0 : Int32) (hs1 : Int32) (nu1 : Int32) (ss1 : Int32) (hs2 : Int32) (nu2 : Int32) (ss2 : Int32) (hs3 : Int32) (nu3 : Int32) (ss3 : Int32) (rn : Nat) (tk : Int32) (tn : Int32) (ta : Int32) (tp_ : Int32) (tc : Nat → Int32) (s0 : Int32) (c0 : Int32) (x0 : Int32)  (hb_n : n ≤ 8) (hb_td : td ≤ 40) (hb_rn : rn ≤ 30) : Ci l yX8_act (WW yX8_act cX8_act 5 (some FieldType.int)) rmX8_act D vwCl (TY g) [.ref bo, .int s0, .int c0, .int x0] [(bo, .inr (8, [.ref (an 0), .ref (ak 0), .int ik, .ref (bT), .ref (hT), .ref (ar 0), .ref (bS), .ref bV, .ref (th 0)])), (an 0, .inr (2, [.ref (an 1), .ref (an 2), .ref (an 3), .ref (an 4), .ref (an 5), .ref (an 6), .ref (an 7), .int (nI n), .ref (an 8), .ref (an 9), .ref (an 10), .ref (an 11), .int (nI td), .int z, .ref (an 12)])), (an 1, .inl (g 0, 8, .inl kd)), (an 2, .inl (g 0, 8, .inl ka)), (an 3, .inl (g 0, 8, .inl ho)), (an 4, .inl (g 0, 8, .inl fa)), (an 5, .inl (g 0, 8, .inl si)), (an 6, .inl (g 0, 8, .inl kn)), (an 7, .inl (g 0, 8, .inl aw)), (an 8, .inl (g 0, 40, .inl ev)), (an 9, .inl (g 0, 40, .inl cr)), (an 10, .inl (g 0, 40, .inl tr)), (an 11, .inl (g 0, 4, .inl lw)), (an 12, .inr (0, [.int (q 0), .int (q 1), .int (q 2), .int (q 3), .int (q 4), .int (q 5), .int (q 6), .int (q 7), .int (q 8)])), (bV, .inl (g 4, 4, .inr (.inr (.inr (.inr (fun j => some (av j))))))), (av 0, .inr (4, [.int hs0, .int nu0, .int ss0])), (av 1, .inr (4, [.int hs1, .int nu1, .int ss1])), (av 2, .inr (4, [.int hs2, .int nu2, .int ss2])), (av 3, .inr (4, [.int hs3, .int nu3, .int ss3])), (th 0, .inr (6, [.ref (th 1), .int (nI rn), .int tk, .int tn, .int ta, .int tp_])), (th 1, .inl (g 0, 30, .inl tc))] (fun r u => ∃ (rn' : Nat) (tk' : Int32) (tn' : Int32) (ta' : Int32) (tp_' : Int32) (tc' : Nat → Int32), (rn' ≤ 30) ∧ (((r, ((tc', rn') : MT)) : Int32 × MT) = (aActC s0 c0 x0 (n, kd, ka, ho, fa, si, kn, aw, ev, cr, tr, lw, td, z) (v4 hs0 hs1 hs2 hs3) (v4 nu0 nu1 nu2 nu3), gActC s0 c0 x0 (n, kd, ka, ho, fa, si, kn, aw, ev, cr, tr, lw, td, z) (v4 hs0 hs1 hs2 hs3) (v4 nu0 nu1 nu2 nu3) tc)) ∧ u = [(bo, .inr (8, [.ref (an 0), .ref (ak 0), .int ik, .ref (bT), .ref (hT), .ref (ar 0), .ref (bS), .ref bV, .ref (th 0)])), (an 0, .inr (2, [.ref (an 1), .ref (an 2), .ref (an 3), .ref (an 4), .ref (an 5), .ref (an 6), .ref (an 7), .int (nI n), .ref (an 8), .ref (an 9), .ref (an 10), .ref (an 11), .int (nI td), .int z, .ref (an 12)])), (an 1, .inl (g 0, 8, .inl kd)), (an 2, .inl (g 0, 8, .inl ka)), (an 3, .inl (g 0, 8, .inl ho)), (an 4, .inl (g 0, 8, .inl fa)), (an 5, .inl (g 0, 8, .inl si)), (an 6, .inl (g 0, 8, .inl kn)), (an 7, .inl (g 0, 8, .inl aw)), (an 8, .inl (g 0, 40, .inl ev)), (an 9, .inl (g 0, 40, .inl cr)), (an 10, .inl (g 0, 40, .inl tr)), (an 11, .inl (g 0, 4, .inl lw)), (an 12, .inr (0, [.int (q 0), .int (q 1), .int (q 2), .int (q 3), .int (q 4), .int (q 5), .int (q 6), .int (q 7), .int (q 8)])), (bV, .inl (g 4, 4, .inr (.inr (.inr (.inr (fun j => some (av j))))))), (av 0, .inr (4, [.int hs0, .int nu0, .int ss0])), (av 1, .inr (4, [.int hs1, .int nu1, .int ss1])), (av 2, .inr (4, [.int hs2, .int nu2, .int ss2])), (av 3, .inr (4, [.int hs3, .int nu3, .int ss3])), (th 0, .inr (6, [.ref (th 1), .int (nI rn'), .int tk', .int tn', .int ta', .int tp_'])), (th 1, .inl (g 0, 30, .inl tc'))]) := by
  refine ci_in (by decide) (Nat.le_of_ble_eq_true rfl) (a0 := [bo, an 0, an 1, an 2, an 3, an 4, an 5, an 6, an 7, an 8, an 9, an 10, an 11, an 12, bV, av 0, av 1, av 2, av 3, th 0, th 1]) rfl (fun p e s m args below meth c A Q hQ B hr hsc => ?_)
  refine s_aload_n B dX8_act_0 rfl 0 rfl ?_
  refine s_get (T := TX8) B inX8 0 rfl rfl 8 (Nat.le_of_ble_eq_true rfl) fl_X8_59 rfl rfl dX8_act_1 ?_
  refine s_callVv B hsc (c_X6_clearTrace l D g th tc rn tk tn ta tp_) (gw_V ml_X8_274 im_yX6_clearTrace se_yX6_clearTrace ini_RX6 co_yX6_clearTrace) hd_X6_clearTrace rfl rfl ⟨(Nat.le_of_ble_eq_true rfl), (Nat.le_of_ble_eq_true rfl)⟩ [19, 20] [0, 1, 2, 3, 4] rfl rfl rfl (ci := 6) (q0 := 0) rfl rfl rfl rfl rfl (Nat.le_of_ble_eq_true rfl) dX8_act_4 (fun u_1 hpo => ?_)
  subst hpo
  refine s_ws (ws' := [(bo, .inr (8, [.ref (an 0), .ref (ak 0), .int ik, .ref (bT), .ref (hT), .ref (ar 0), .ref (bS), .ref bV, .ref (th 0)])), (an 0, .inr (2, [.ref (an 1), .ref (an 2), .ref (an 3), .ref (an 4), .ref (an 5), .ref (an 6), .ref (an 7), .int (nI n), .ref (an 8), .ref (an 9), .ref (an 10), .ref (an 11), .int (nI td), .int z, .ref (an 12)])), (an 1, .inl (g 0, 8, .inl kd)), (an 2, .inl (g 0, 8, .inl ka)), (an 3, .inl (g 0, 8, .inl ho)), (an 4, .inl (g 0, 8, .inl fa)), (an 5, .inl (g 0, 8, .inl si)), (an 6, .inl (g 0, 8, .inl kn)), (an 7, .inl (g 0, 8, .inl aw)), (an 8, .inl (g 0, 40, .inl ev)), (an 9, .inl (g 0, 40, .inl cr)), (an 10, .inl (g 0, 40, .inl tr)), (an 11, .inl (g 0, 4, .inl lw)), (an 12, .inr (0, [.int (q 0), .int (q 1), .int (q 2), .int (q 3), .int (q 4), .int (q 5), .int (q 6), .int (q 7), .int (q 8)])), (bV, .inl (g 4, 4, .inr (.inr (.inr (.inr (fun j => some (av j))))))), (av 0, .inr (4, [.int hs0, .int nu0, .int ss0])), (av 1, .inr (4, [.int hs1, .int nu1, .int ss1])), (av 2, .inr (4, [.int hs2, .int nu2, .int ss2])), (av 3, .inr (4, [.int hs3, .int nu3, .int ss3])), (th 0, .inr (6, [.ref (th 1), .int (nI 0), .int tk, .int tn, .int ta, .int 0])), (th 1, .inl (g 0, 30, .inl tc))]) rfl ?_
  refine s_iload_n B dX8_act_7 rfl 1 rfl ?_
  refine s_callSi B hsc (c_X8_isShelf l D g s0) (gw_S ml_X8_250 sm_yX8_isShelf ini_RX8 co_yX8_isShelf) hd_X8_isShelf rfl rfl ⟨(Nat.le_of_ble_eq_true rfl), (Nat.le_of_ble_eq_true rfl)⟩ [] [0, 1, 2, 3, 4] rfl rfl rfl rfl rfl (Nat.le_of_ble_eq_true rfl) dX8_act_8 (fun r_2 u_3 hpo => ?_)
  obtain ⟨rfl, rfl⟩ := hpo
  refine s_st (st' := [.int (if ¬ s0 < 0 ∧ s0 < 4 then 1 else 0)]) rfl ?_
  refine s_ws (ws' := [(bo, .inr (8, [.ref (an 0), .ref (ak 0), .int ik, .ref (bT), .ref (hT), .ref (ar 0), .ref (bS), .ref bV, .ref (th 0)])), (an 0, .inr (2, [.ref (an 1), .ref (an 2), .ref (an 3), .ref (an 4), .ref (an 5), .ref (an 6), .ref (an 7), .int (nI n), .ref (an 8), .ref (an 9), .ref (an 10), .ref (an 11), .int (nI td), .int z, .ref (an 12)])), (an 1, .inl (g 0, 8, .inl kd)), (an 2, .inl (g 0, 8, .inl ka)), (an 3, .inl (g 0, 8, .inl ho)), (an 4, .inl (g 0, 8, .inl fa)), (an 5, .inl (g 0, 8, .inl si)), (an 6, .inl (g 0, 8, .inl kn)), (an 7, .inl (g 0, 8, .inl aw)), (an 8, .inl (g 0, 40, .inl ev)), (an 9, .inl (g 0, 40, .inl cr)), (an 10, .inl (g 0, 40, .inl tr)), (an 11, .inl (g 0, 4, .inl lw)), (an 12, .inr (0, [.int (q 0), .int (q 1), .int (q 2), .int (q 3), .int (q 4), .int (q 5), .int (q 6), .int (q 7), .int (q 8)])), (bV, .inl (g 4, 4, .inr (.inr (.inr (.inr (fun j => some (av j))))))), (av 0, .inr (4, [.int hs0, .int nu0, .int ss0])), (av 1, .inr (4, [.int hs1, .int nu1, .int ss1])), (av 2, .inr (4, [.int hs2, .int nu2, .int ss2])), (av 3, .inr (4, [.int hs3, .int nu3, .int ss3])), (th 0, .inr (6, [.ref (th 1), .int (nI 0), .int tk, .int tn, .int ta, .int 0])), (th 1, .inl (g 0, 30, .inl tc))]) rfl ?_
  refine s_bif_eq (tgt := 36) B dX8_act_11 rfl (fun h11 => ?_) (fun h11 => ?_)
  · refine s_iconst B dX8_act_36 ic_0 ?_
    refine s_iret B hQ hr dX8_act_37 rfl ?_
    exact ⟨0, tk, tn, ta, 0, tc, by omega, (cg_act_no (G := (n, kd, ka, ho, fa, si, kn, aw, ev, cr, tr, lw, td, z)) (by clear hQ B hr hsc; have ec0 : (nI 0).toNatClampNeg = 0 := (by decide); have ec1 : (nI 1).toNatClampNeg = 1 := (by decide); have ec2 : (nI 2).toNatClampNeg = 2 := (by decide); have ec3 : (nI 3).toNatClampNeg = 3 := (by decide); grind [v4])), rfl⟩
  · obtain ⟨k_4, hk_5, rfl⟩ := nat_lt2 (N := 4) h11.1 h11.2 (by omega)
    refine s_iload_n B dX8_act_14 rfl 2 rfl ?_
    refine s_if_lt (tgt := 36) B dX8_act_15 rfl (fun h15 => ?_) (fun h15 => ?_)
    · refine s_iconst B dX8_act_36 ic_0 ?_
      refine s_iret B hQ hr dX8_act_37 rfl ?_
      exact ⟨0, tk, tn, ta, 0, tc, by omega, (cg_act_no (G := (n, kd, ka, ho, fa, si, kn, aw, ev, cr, tr, lw, td, z)) (by clear hQ B hr hsc; have ec0 : (nI 0).toNatClampNeg = 0 := (by decide); have ec1 : (nI 1).toNatClampNeg = 1 := (by decide); have ec2 : (nI 2).toNatClampNeg = 2 := (by decide); have ec3 : (nI 3).toNatClampNeg = 3 := (by decide); grind [v4])), rfl⟩
    · refine s_iload_n B dX8_act_18 rfl 2 rfl ?_
      refine s_iconst B dX8_act_19 ic_4 ?_
      refine s_icmp_ge (tgt := 36) B dX8_act_20 rfl (fun h20 => ?_) (fun h20 => ?_)
      · refine s_iconst B dX8_act_36 ic_0 ?_
        refine s_iret B hQ hr dX8_act_37 rfl ?_
        exact ⟨0, tk, tn, ta, 0, tc, by omega, (cg_act_no (G := (n, kd, ka, ho, fa, si, kn, aw, ev, cr, tr, lw, td, z)) (by clear hQ B hr hsc; have ec0 : (nI 0).toNatClampNeg = 0 := (by decide); have ec1 : (nI 1).toNatClampNeg = 1 := (by decide); have ec2 : (nI 2).toNatClampNeg = 2 := (by decide); have ec3 : (nI 3).toNatClampNeg = 3 := (by decide); grind [v4])), rfl⟩
      · refine s_aload_n B dX8_act_23 rfl 0 rfl ?_
        refine s_aload_n B dX8_act_24 rfl 0 rfl ?_
        refine s_get (T := TX8) B inX8 0 rfl rfl 7 (Nat.le_of_ble_eq_true rfl) fl_X8_52 rfl rfl dX8_act_25 ?_
        refine s_iload_n B dX8_act_28 rfl 1 rfl ?_
        rcases (show k_4 = 0 ∨ k_4 = 1 ∨ k_4 = 2 ∨ k_4 = 3 from by omega) with rfl | rfl | rfl | rfl
        · refine s_aldqN B 14 4 rfl rfl dX8_act_29 (by omega) (by decide) rfl ?_
          refine s_callVi B hsc (c_X8_holdsChild l D g bo an ak bT hT ar bS bV th (av 0) ik n td z kd ka ho fa si kn aw ev cr tr lw q hs0 nu0 ss0 (by omega) (by omega)) (gw_V ml_X8_267 im_yX8_holdsChild se_yX8_holdsChild ini_RX8 co_yX8_holdsChild) hd_X8_holdsChild rfl rfl ⟨(Nat.le_of_ble_eq_true rfl), (Nat.le_of_ble_eq_true rfl)⟩ [0, 1, 2, 3, 4, 5, 6, 7, 8, 9, 10, 11, 12, 13, 15] [0, 1, 2, 3, 4] rfl rfl rfl (ci := 8) (q0 := 0) rfl rfl rfl rfl rfl (Nat.le_of_ble_eq_true rfl) dX8_act_30 (fun r_6 u_7 hpo => ?_)
          obtain ⟨rfl, rfl⟩ := hpo
          refine s_st (st' := [.int (if hs0 = 0 ∧ (¬ nu0 < 0 ∧ nu0 < nI n) then 1 else 0)]) rfl ?_
          refine s_ws (ws' := [(bo, .inr (8, [.ref (an 0), .ref (ak 0), .int ik, .ref (bT), .ref (hT), .ref (ar 0), .ref (bS), .ref bV, .ref (th 0)])), (an 0, .inr (2, [.ref (an 1), .ref (an 2), .ref (an 3), .ref (an 4), .ref (an 5), .ref (an 6), .ref (an 7), .int (nI n), .ref (an 8), .ref (an 9), .ref (an 10), .ref (an 11), .int (nI td), .int z, .ref (an 12)])), (an 1, .inl (g 0, 8, .inl kd)), (an 2, .inl (g 0, 8, .inl ka)), (an 3, .inl (g 0, 8, .inl ho)), (an 4, .inl (g 0, 8, .inl fa)), (an 5, .inl (g 0, 8, .inl si)), (an 6, .inl (g 0, 8, .inl kn)), (an 7, .inl (g 0, 8, .inl aw)), (an 8, .inl (g 0, 40, .inl ev)), (an 9, .inl (g 0, 40, .inl cr)), (an 10, .inl (g 0, 40, .inl tr)), (an 11, .inl (g 0, 4, .inl lw)), (an 12, .inr (0, [.int (q 0), .int (q 1), .int (q 2), .int (q 3), .int (q 4), .int (q 5), .int (q 6), .int (q 7), .int (q 8)])), (bV, .inl (g 4, 4, .inr (.inr (.inr (.inr (fun j => some (av j))))))), (av 0, .inr (4, [.int hs0, .int nu0, .int ss0])), (av 1, .inr (4, [.int hs1, .int nu1, .int ss1])), (av 2, .inr (4, [.int hs2, .int nu2, .int ss2])), (av 3, .inr (4, [.int hs3, .int nu3, .int ss3])), (th 0, .inr (6, [.ref (th 1), .int (nI 0), .int tk, .int tn, .int ta, .int 0])), (th 1, .inl (g 0, 30, .inl tc))]) rfl ?_
          refine s_bif_ne (tgt := 38) B dX8_act_33 rfl (fun h33 => ?_) (fun h33 => ?_)
          · refine s_aload_n B dX8_act_38 rfl 0 rfl ?_
            refine s_get (T := TX8) B inX8 0 rfl rfl 7 (Nat.le_of_ble_eq_true rfl) fl_X8_52 rfl rfl dX8_act_39 ?_
            refine s_iload_n B dX8_act_42 rfl 1 rfl ?_
            refine s_aldqN B 14 4 rfl rfl dX8_act_43 (by omega) (by decide) rfl ?_
            obtain ⟨k_8, hk_9, rfl⟩ := nat_lt2 (N := n) h33.2.1 h33.2.2 (by omega)
            refine s_get (T := TX4) B inX4 15 rfl rfl 1 (Nat.le_of_ble_eq_true rfl) fl_X8_264 rfl rfl dX8_act_44 ?_
            refine s_istore (lv' := [(4, _), (0, _), (1, _), (2, _), (3, _)]) B dX8_act_47 (Nat.le_of_ble_eq_true rfl) rfl ?_
            refine s_aload_n B dX8_act_49 rfl 1 rfl ?_
            refine s_get (T := TX8) B inX8 0 rfl rfl 8 (Nat.le_of_ble_eq_true rfl) fl_X8_59 rfl rfl dX8_act_50 ?_
            refine s_aload_n B dX8_act_53 rfl 1 rfl ?_
            refine s_get (T := TX8) B inX8 0 rfl rfl 0 (Nat.le_of_ble_eq_true rfl) fl_X8_10 rfl rfl dX8_act_54 ?_
            refine s_get (T := TX2) B inX2 1 rfl rfl 0 (Nat.le_of_ble_eq_true rfl) fl_X8_109 rfl rfl dX8_act_57 ?_
            refine s_iload B dX8_act_60 0 rfl ?_
            refine s_ialdN B 2 0 rfl rfl dX8_act_62 (by omega) (by decide) ?_
            refine s_iload B dX8_act_63 0 rfl ?_
            refine s_aload_n B dX8_act_65 rfl 1 rfl ?_
            refine s_get (T := TX8) B inX8 0 rfl rfl 0 (Nat.le_of_ble_eq_true rfl) fl_X8_10 rfl rfl dX8_act_66 ?_
            refine s_get (T := TX2) B inX2 1 rfl rfl 1 (Nat.le_of_ble_eq_true rfl) fl_X8_113 rfl rfl dX8_act_69 ?_
            refine s_iload B dX8_act_72 0 rfl ?_
            refine s_ialdN B 3 0 rfl rfl dX8_act_74 (by omega) (by decide) ?_
            refine s_iload_n B dX8_act_75 rfl 3 rfl ?_
            refine s_iload_n B dX8_act_76 rfl 4 rfl ?_
            refine s_callVi B hsc (c_X6_answerOf l D g th 0 tk tn ta 0 tc (kd k_8) (nI k_8) (ka k_8) c0 x0 (by omega)) (gw_V ml_X8_277 im_yX6_answerOf se_yX6_answerOf ini_RX6 co_yX6_answerOf) hd_X6_answerOf rfl rfl ⟨(Nat.le_of_ble_eq_true rfl), (Nat.le_of_ble_eq_true rfl)⟩ [19, 20] [0, 1, 2, 3, 4] rfl rfl rfl (ci := 6) (q0 := 0) rfl rfl rfl rfl rfl (Nat.le_of_ble_eq_true rfl) dX8_act_77 (fun r_10 u_11 hpo => ?_)
            obtain ⟨rn_12, tk_13, tn_14, ta_15, tp__16, tc_17, hb_18, hf_19, rfl⟩ := hpo
            refine s_ws (ws' := [(bo, .inr (8, [.ref (an 0), .ref (ak 0), .int ik, .ref (bT), .ref (hT), .ref (ar 0), .ref (bS), .ref bV, .ref (th 0)])), (an 0, .inr (2, [.ref (an 1), .ref (an 2), .ref (an 3), .ref (an 4), .ref (an 5), .ref (an 6), .ref (an 7), .int (nI n), .ref (an 8), .ref (an 9), .ref (an 10), .ref (an 11), .int (nI td), .int z, .ref (an 12)])), (an 1, .inl (g 0, 8, .inl kd)), (an 2, .inl (g 0, 8, .inl ka)), (an 3, .inl (g 0, 8, .inl ho)), (an 4, .inl (g 0, 8, .inl fa)), (an 5, .inl (g 0, 8, .inl si)), (an 6, .inl (g 0, 8, .inl kn)), (an 7, .inl (g 0, 8, .inl aw)), (an 8, .inl (g 0, 40, .inl ev)), (an 9, .inl (g 0, 40, .inl cr)), (an 10, .inl (g 0, 40, .inl tr)), (an 11, .inl (g 0, 4, .inl lw)), (an 12, .inr (0, [.int (q 0), .int (q 1), .int (q 2), .int (q 3), .int (q 4), .int (q 5), .int (q 6), .int (q 7), .int (q 8)])), (bV, .inl (g 4, 4, .inr (.inr (.inr (.inr (fun j => some (av j))))))), (av 0, .inr (4, [.int hs0, .int (nI k_8), .int ss0])), (av 1, .inr (4, [.int hs1, .int nu1, .int ss1])), (av 2, .inr (4, [.int hs2, .int nu2, .int ss2])), (av 3, .inr (4, [.int hs3, .int nu3, .int ss3])), (th 0, .inr (6, [.ref (th 1), .int (nI rn_12), .int tk_13, .int tn_14, .int ta_15, .int tp__16])), (th 1, .inl (g 0, 30, .inl tc_17))]) rfl ?_
            refine s_iret B hQ hr dX8_act_80 rfl ?_
            exact ⟨rn_12, tk_13, tn_14, ta_15, tp__16, tc_17, by omega, (cg_act_ok (G := (n, kd, ka, ho, fa, si, kn, aw, ev, cr, tr, lw, td, z)) (by clear hQ B hr hsc; have ec0 : (nI 0).toNatClampNeg = 0 := (by decide); have ec1 : (nI 1).toNatClampNeg = 1 := (by decide); have ec2 : (nI 2).toNatClampNeg = 2 := (by decide); have ec3 : (nI 3).toNatClampNeg = 3 := (by decide); grind [v4]) (by rfl) (by omega) hf_19), rfl⟩
          · refine s_iconst B dX8_act_36 ic_0 ?_
            refine s_iret B hQ hr dX8_act_37 rfl ?_
            exact ⟨0, tk, tn, ta, 0, tc, by omega, (cg_act_no (G := (n, kd, ka, ho, fa, si, kn, aw, ev, cr, tr, lw, td, z)) (by clear hQ B hr hsc; have ec0 : (nI 0).toNatClampNeg = 0 := (by decide); have ec1 : (nI 1).toNatClampNeg = 1 := (by decide); have ec2 : (nI 2).toNatClampNeg = 2 := (by decide); have ec3 : (nI 3).toNatClampNeg = 3 := (by decide); grind [v4])), rfl⟩
        · refine s_aldqN B 14 4 rfl rfl dX8_act_29 (by omega) (by decide) rfl ?_
          refine s_callVi B hsc (c_X8_holdsChild l D g bo an ak bT hT ar bS bV th (av 1) ik n td z kd ka ho fa si kn aw ev cr tr lw q hs1 nu1 ss1 (by omega) (by omega)) (gw_V ml_X8_267 im_yX8_holdsChild se_yX8_holdsChild ini_RX8 co_yX8_holdsChild) hd_X8_holdsChild rfl rfl ⟨(Nat.le_of_ble_eq_true rfl), (Nat.le_of_ble_eq_true rfl)⟩ [0, 1, 2, 3, 4, 5, 6, 7, 8, 9, 10, 11, 12, 13, 16] [0, 1, 2, 3, 4] rfl rfl rfl (ci := 8) (q0 := 0) rfl rfl rfl rfl rfl (Nat.le_of_ble_eq_true rfl) dX8_act_30 (fun r_20 u_21 hpo => ?_)
          obtain ⟨rfl, rfl⟩ := hpo
          refine s_st (st' := [.int (if hs1 = 0 ∧ (¬ nu1 < 0 ∧ nu1 < nI n) then 1 else 0)]) rfl ?_
          refine s_ws (ws' := [(bo, .inr (8, [.ref (an 0), .ref (ak 0), .int ik, .ref (bT), .ref (hT), .ref (ar 0), .ref (bS), .ref bV, .ref (th 0)])), (an 0, .inr (2, [.ref (an 1), .ref (an 2), .ref (an 3), .ref (an 4), .ref (an 5), .ref (an 6), .ref (an 7), .int (nI n), .ref (an 8), .ref (an 9), .ref (an 10), .ref (an 11), .int (nI td), .int z, .ref (an 12)])), (an 1, .inl (g 0, 8, .inl kd)), (an 2, .inl (g 0, 8, .inl ka)), (an 3, .inl (g 0, 8, .inl ho)), (an 4, .inl (g 0, 8, .inl fa)), (an 5, .inl (g 0, 8, .inl si)), (an 6, .inl (g 0, 8, .inl kn)), (an 7, .inl (g 0, 8, .inl aw)), (an 8, .inl (g 0, 40, .inl ev)), (an 9, .inl (g 0, 40, .inl cr)), (an 10, .inl (g 0, 40, .inl tr)), (an 11, .inl (g 0, 4, .inl lw)), (an 12, .inr (0, [.int (q 0), .int (q 1), .int (q 2), .int (q 3), .int (q 4), .int (q 5), .int (q 6), .int (q 7), .int (q 8)])), (bV, .inl (g 4, 4, .inr (.inr (.inr (.inr (fun j => some (av j))))))), (av 0, .inr (4, [.int hs0, .int nu0, .int ss0])), (av 1, .inr (4, [.int hs1, .int nu1, .int ss1])), (av 2, .inr (4, [.int hs2, .int nu2, .int ss2])), (av 3, .inr (4, [.int hs3, .int nu3, .int ss3])), (th 0, .inr (6, [.ref (th 1), .int (nI 0), .int tk, .int tn, .int ta, .int 0])), (th 1, .inl (g 0, 30, .inl tc))]) rfl ?_
          refine s_bif_ne (tgt := 38) B dX8_act_33 rfl (fun h33 => ?_) (fun h33 => ?_)
          · refine s_aload_n B dX8_act_38 rfl 0 rfl ?_
            refine s_get (T := TX8) B inX8 0 rfl rfl 7 (Nat.le_of_ble_eq_true rfl) fl_X8_52 rfl rfl dX8_act_39 ?_
            refine s_iload_n B dX8_act_42 rfl 1 rfl ?_
            refine s_aldqN B 14 4 rfl rfl dX8_act_43 (by omega) (by decide) rfl ?_
            obtain ⟨k_22, hk_23, rfl⟩ := nat_lt2 (N := n) h33.2.1 h33.2.2 (by omega)
            refine s_get (T := TX4) B inX4 16 rfl rfl 1 (Nat.le_of_ble_eq_true rfl) fl_X8_264 rfl rfl dX8_act_44 ?_
            refine s_istore (lv' := [(4, _), (0, _), (1, _), (2, _), (3, _)]) B dX8_act_47 (Nat.le_of_ble_eq_true rfl) rfl ?_
            refine s_aload_n B dX8_act_49 rfl 1 rfl ?_
            refine s_get (T := TX8) B inX8 0 rfl rfl 8 (Nat.le_of_ble_eq_true rfl) fl_X8_59 rfl rfl dX8_act_50 ?_
            refine s_aload_n B dX8_act_53 rfl 1 rfl ?_
            refine s_get (T := TX8) B inX8 0 rfl rfl 0 (Nat.le_of_ble_eq_true rfl) fl_X8_10 rfl rfl dX8_act_54 ?_
            refine s_get (T := TX2) B inX2 1 rfl rfl 0 (Nat.le_of_ble_eq_true rfl) fl_X8_109 rfl rfl dX8_act_57 ?_
            refine s_iload B dX8_act_60 0 rfl ?_
            refine s_ialdN B 2 0 rfl rfl dX8_act_62 (by omega) (by decide) ?_
            refine s_iload B dX8_act_63 0 rfl ?_
            refine s_aload_n B dX8_act_65 rfl 1 rfl ?_
            refine s_get (T := TX8) B inX8 0 rfl rfl 0 (Nat.le_of_ble_eq_true rfl) fl_X8_10 rfl rfl dX8_act_66 ?_
            refine s_get (T := TX2) B inX2 1 rfl rfl 1 (Nat.le_of_ble_eq_true rfl) fl_X8_113 rfl rfl dX8_act_69 ?_
            refine s_iload B dX8_act_72 0 rfl ?_
            refine s_ialdN B 3 0 rfl rfl dX8_act_74 (by omega) (by decide) ?_
            refine s_iload_n B dX8_act_75 rfl 3 rfl ?_
            refine s_iload_n B dX8_act_76 rfl 4 rfl ?_
            refine s_callVi B hsc (c_X6_answerOf l D g th 0 tk tn ta 0 tc (kd k_22) (nI k_22) (ka k_22) c0 x0 (by omega)) (gw_V ml_X8_277 im_yX6_answerOf se_yX6_answerOf ini_RX6 co_yX6_answerOf) hd_X6_answerOf rfl rfl ⟨(Nat.le_of_ble_eq_true rfl), (Nat.le_of_ble_eq_true rfl)⟩ [19, 20] [0, 1, 2, 3, 4] rfl rfl rfl (ci := 6) (q0 := 0) rfl rfl rfl rfl rfl (Nat.le_of_ble_eq_true rfl) dX8_act_77 (fun r_24 u_25 hpo => ?_)
            obtain ⟨rn_26, tk_27, tn_28, ta_29, tp__30, tc_31, hb_32, hf_33, rfl⟩ := hpo
            refine s_ws (ws' := [(bo, .inr (8, [.ref (an 0), .ref (ak 0), .int ik, .ref (bT), .ref (hT), .ref (ar 0), .ref (bS), .ref bV, .ref (th 0)])), (an 0, .inr (2, [.ref (an 1), .ref (an 2), .ref (an 3), .ref (an 4), .ref (an 5), .ref (an 6), .ref (an 7), .int (nI n), .ref (an 8), .ref (an 9), .ref (an 10), .ref (an 11), .int (nI td), .int z, .ref (an 12)])), (an 1, .inl (g 0, 8, .inl kd)), (an 2, .inl (g 0, 8, .inl ka)), (an 3, .inl (g 0, 8, .inl ho)), (an 4, .inl (g 0, 8, .inl fa)), (an 5, .inl (g 0, 8, .inl si)), (an 6, .inl (g 0, 8, .inl kn)), (an 7, .inl (g 0, 8, .inl aw)), (an 8, .inl (g 0, 40, .inl ev)), (an 9, .inl (g 0, 40, .inl cr)), (an 10, .inl (g 0, 40, .inl tr)), (an 11, .inl (g 0, 4, .inl lw)), (an 12, .inr (0, [.int (q 0), .int (q 1), .int (q 2), .int (q 3), .int (q 4), .int (q 5), .int (q 6), .int (q 7), .int (q 8)])), (bV, .inl (g 4, 4, .inr (.inr (.inr (.inr (fun j => some (av j))))))), (av 0, .inr (4, [.int hs0, .int nu0, .int ss0])), (av 1, .inr (4, [.int hs1, .int (nI k_22), .int ss1])), (av 2, .inr (4, [.int hs2, .int nu2, .int ss2])), (av 3, .inr (4, [.int hs3, .int nu3, .int ss3])), (th 0, .inr (6, [.ref (th 1), .int (nI rn_26), .int tk_27, .int tn_28, .int ta_29, .int tp__30])), (th 1, .inl (g 0, 30, .inl tc_31))]) rfl ?_
            refine s_iret B hQ hr dX8_act_80 rfl ?_
            exact ⟨rn_26, tk_27, tn_28, ta_29, tp__30, tc_31, by omega, (cg_act_ok (G := (n, kd, ka, ho, fa, si, kn, aw, ev, cr, tr, lw, td, z)) (by clear hQ B hr hsc; have ec0 : (nI 0).toNatClampNeg = 0 := (by decide); have ec1 : (nI 1).toNatClampNeg = 1 := (by decide); have ec2 : (nI 2).toNatClampNeg = 2 := (by decide); have ec3 : (nI 3).toNatClampNeg = 3 := (by decide); grind [v4]) (by rfl) (by omega) hf_33), rfl⟩
          · refine s_iconst B dX8_act_36 ic_0 ?_
            refine s_iret B hQ hr dX8_act_37 rfl ?_
            exact ⟨0, tk, tn, ta, 0, tc, by omega, (cg_act_no (G := (n, kd, ka, ho, fa, si, kn, aw, ev, cr, tr, lw, td, z)) (by clear hQ B hr hsc; have ec0 : (nI 0).toNatClampNeg = 0 := (by decide); have ec1 : (nI 1).toNatClampNeg = 1 := (by decide); have ec2 : (nI 2).toNatClampNeg = 2 := (by decide); have ec3 : (nI 3).toNatClampNeg = 3 := (by decide); grind [v4])), rfl⟩
        · refine s_aldqN B 14 4 rfl rfl dX8_act_29 (by omega) (by decide) rfl ?_
          refine s_callVi B hsc (c_X8_holdsChild l D g bo an ak bT hT ar bS bV th (av 2) ik n td z kd ka ho fa si kn aw ev cr tr lw q hs2 nu2 ss2 (by omega) (by omega)) (gw_V ml_X8_267 im_yX8_holdsChild se_yX8_holdsChild ini_RX8 co_yX8_holdsChild) hd_X8_holdsChild rfl rfl ⟨(Nat.le_of_ble_eq_true rfl), (Nat.le_of_ble_eq_true rfl)⟩ [0, 1, 2, 3, 4, 5, 6, 7, 8, 9, 10, 11, 12, 13, 17] [0, 1, 2, 3, 4] rfl rfl rfl (ci := 8) (q0 := 0) rfl rfl rfl rfl rfl (Nat.le_of_ble_eq_true rfl) dX8_act_30 (fun r_34 u_35 hpo => ?_)
          obtain ⟨rfl, rfl⟩ := hpo
          refine s_st (st' := [.int (if hs2 = 0 ∧ (¬ nu2 < 0 ∧ nu2 < nI n) then 1 else 0)]) rfl ?_
          refine s_ws (ws' := [(bo, .inr (8, [.ref (an 0), .ref (ak 0), .int ik, .ref (bT), .ref (hT), .ref (ar 0), .ref (bS), .ref bV, .ref (th 0)])), (an 0, .inr (2, [.ref (an 1), .ref (an 2), .ref (an 3), .ref (an 4), .ref (an 5), .ref (an 6), .ref (an 7), .int (nI n), .ref (an 8), .ref (an 9), .ref (an 10), .ref (an 11), .int (nI td), .int z, .ref (an 12)])), (an 1, .inl (g 0, 8, .inl kd)), (an 2, .inl (g 0, 8, .inl ka)), (an 3, .inl (g 0, 8, .inl ho)), (an 4, .inl (g 0, 8, .inl fa)), (an 5, .inl (g 0, 8, .inl si)), (an 6, .inl (g 0, 8, .inl kn)), (an 7, .inl (g 0, 8, .inl aw)), (an 8, .inl (g 0, 40, .inl ev)), (an 9, .inl (g 0, 40, .inl cr)), (an 10, .inl (g 0, 40, .inl tr)), (an 11, .inl (g 0, 4, .inl lw)), (an 12, .inr (0, [.int (q 0), .int (q 1), .int (q 2), .int (q 3), .int (q 4), .int (q 5), .int (q 6), .int (q 7), .int (q 8)])), (bV, .inl (g 4, 4, .inr (.inr (.inr (.inr (fun j => some (av j))))))), (av 0, .inr (4, [.int hs0, .int nu0, .int ss0])), (av 1, .inr (4, [.int hs1, .int nu1, .int ss1])), (av 2, .inr (4, [.int hs2, .int nu2, .int ss2])), (av 3, .inr (4, [.int hs3, .int nu3, .int ss3])), (th 0, .inr (6, [.ref (th 1), .int (nI 0), .int tk, .int tn, .int ta, .int 0])), (th 1, .inl (g 0, 30, .inl tc))]) rfl ?_
          refine s_bif_ne (tgt := 38) B dX8_act_33 rfl (fun h33 => ?_) (fun h33 => ?_)
          · refine s_aload_n B dX8_act_38 rfl 0 rfl ?_
            refine s_get (T := TX8) B inX8 0 rfl rfl 7 (Nat.le_of_ble_eq_true rfl) fl_X8_52 rfl rfl dX8_act_39 ?_
            refine s_iload_n B dX8_act_42 rfl 1 rfl ?_
            refine s_aldqN B 14 4 rfl rfl dX8_act_43 (by omega) (by decide) rfl ?_
            obtain ⟨k_36, hk_37, rfl⟩ := nat_lt2 (N := n) h33.2.1 h33.2.2 (by omega)
            refine s_get (T := TX4) B inX4 17 rfl rfl 1 (Nat.le_of_ble_eq_true rfl) fl_X8_264 rfl rfl dX8_act_44 ?_
            refine s_istore (lv' := [(4, _), (0, _), (1, _), (2, _), (3, _)]) B dX8_act_47 (Nat.le_of_ble_eq_true rfl) rfl ?_
            refine s_aload_n B dX8_act_49 rfl 1 rfl ?_
            refine s_get (T := TX8) B inX8 0 rfl rfl 8 (Nat.le_of_ble_eq_true rfl) fl_X8_59 rfl rfl dX8_act_50 ?_
            refine s_aload_n B dX8_act_53 rfl 1 rfl ?_
            refine s_get (T := TX8) B inX8 0 rfl rfl 0 (Nat.le_of_ble_eq_true rfl) fl_X8_10 rfl rfl dX8_act_54 ?_
            refine s_get (T := TX2) B inX2 1 rfl rfl 0 (Nat.le_of_ble_eq_true rfl) fl_X8_109 rfl rfl dX8_act_57 ?_
            refine s_iload B dX8_act_60 0 rfl ?_
            refine s_ialdN B 2 0 rfl rfl dX8_act_62 (by omega) (by decide) ?_
            refine s_iload B dX8_act_63 0 rfl ?_
            refine s_aload_n B dX8_act_65 rfl 1 rfl ?_
            refine s_get (T := TX8) B inX8 0 rfl rfl 0 (Nat.le_of_ble_eq_true rfl) fl_X8_10 rfl rfl dX8_act_66 ?_
            refine s_get (T := TX2) B inX2 1 rfl rfl 1 (Nat.le_of_ble_eq_true rfl) fl_X8_113 rfl rfl dX8_act_69 ?_
            refine s_iload B dX8_act_72 0 rfl ?_
            refine s_ialdN B 3 0 rfl rfl dX8_act_74 (by omega) (by decide) ?_
            refine s_iload_n B dX8_act_75 rfl 3 rfl ?_
            refine s_iload_n B dX8_act_76 rfl 4 rfl ?_
            refine s_callVi B hsc (c_X6_answerOf l D g th 0 tk tn ta 0 tc (kd k_36) (nI k_36) (ka k_36) c0 x0 (by omega)) (gw_V ml_X8_277 im_yX6_answerOf se_yX6_answerOf ini_RX6 co_yX6_answerOf) hd_X6_answerOf rfl rfl ⟨(Nat.le_of_ble_eq_true rfl), (Nat.le_of_ble_eq_true rfl)⟩ [19, 20] [0, 1, 2, 3, 4] rfl rfl rfl (ci := 6) (q0 := 0) rfl rfl rfl rfl rfl (Nat.le_of_ble_eq_true rfl) dX8_act_77 (fun r_38 u_39 hpo => ?_)
            obtain ⟨rn_40, tk_41, tn_42, ta_43, tp__44, tc_45, hb_46, hf_47, rfl⟩ := hpo
            refine s_ws (ws' := [(bo, .inr (8, [.ref (an 0), .ref (ak 0), .int ik, .ref (bT), .ref (hT), .ref (ar 0), .ref (bS), .ref bV, .ref (th 0)])), (an 0, .inr (2, [.ref (an 1), .ref (an 2), .ref (an 3), .ref (an 4), .ref (an 5), .ref (an 6), .ref (an 7), .int (nI n), .ref (an 8), .ref (an 9), .ref (an 10), .ref (an 11), .int (nI td), .int z, .ref (an 12)])), (an 1, .inl (g 0, 8, .inl kd)), (an 2, .inl (g 0, 8, .inl ka)), (an 3, .inl (g 0, 8, .inl ho)), (an 4, .inl (g 0, 8, .inl fa)), (an 5, .inl (g 0, 8, .inl si)), (an 6, .inl (g 0, 8, .inl kn)), (an 7, .inl (g 0, 8, .inl aw)), (an 8, .inl (g 0, 40, .inl ev)), (an 9, .inl (g 0, 40, .inl cr)), (an 10, .inl (g 0, 40, .inl tr)), (an 11, .inl (g 0, 4, .inl lw)), (an 12, .inr (0, [.int (q 0), .int (q 1), .int (q 2), .int (q 3), .int (q 4), .int (q 5), .int (q 6), .int (q 7), .int (q 8)])), (bV, .inl (g 4, 4, .inr (.inr (.inr (.inr (fun j => some (av j))))))), (av 0, .inr (4, [.int hs0, .int nu0, .int ss0])), (av 1, .inr (4, [.int hs1, .int nu1, .int ss1])), (av 2, .inr (4, [.int hs2, .int (nI k_36), .int ss2])), (av 3, .inr (4, [.int hs3, .int nu3, .int ss3])), (th 0, .inr (6, [.ref (th 1), .int (nI rn_40), .int tk_41, .int tn_42, .int ta_43, .int tp__44])), (th 1, .inl (g 0, 30, .inl tc_45))]) rfl ?_
            refine s_iret B hQ hr dX8_act_80 rfl ?_
            exact ⟨rn_40, tk_41, tn_42, ta_43, tp__44, tc_45, by omega, (cg_act_ok (G := (n, kd, ka, ho, fa, si, kn, aw, ev, cr, tr, lw, td, z)) (by clear hQ B hr hsc; have ec0 : (nI 0).toNatClampNeg = 0 := (by decide); have ec1 : (nI 1).toNatClampNeg = 1 := (by decide); have ec2 : (nI 2).toNatClampNeg = 2 := (by decide); have ec3 : (nI 3).toNatClampNeg = 3 := (by decide); grind [v4]) (by rfl) (by omega) hf_47), rfl⟩
          · refine s_iconst B dX8_act_36 ic_0 ?_
            refine s_iret B hQ hr dX8_act_37 rfl ?_
            exact ⟨0, tk, tn, ta, 0, tc, by omega, (cg_act_no (G := (n, kd, ka, ho, fa, si, kn, aw, ev, cr, tr, lw, td, z)) (by clear hQ B hr hsc; have ec0 : (nI 0).toNatClampNeg = 0 := (by decide); have ec1 : (nI 1).toNatClampNeg = 1 := (by decide); have ec2 : (nI 2).toNatClampNeg = 2 := (by decide); have ec3 : (nI 3).toNatClampNeg = 3 := (by decide); grind [v4])), rfl⟩
        · refine s_aldqN B 14 4 rfl rfl dX8_act_29 (by omega) (by decide) rfl ?_
          refine s_callVi B hsc (c_X8_holdsChild l D g bo an ak bT hT ar bS bV th (av 3) ik n td z kd ka ho fa si kn aw ev cr tr lw q hs3 nu3 ss3 (by omega) (by omega)) (gw_V ml_X8_267 im_yX8_holdsChild se_yX8_holdsChild ini_RX8 co_yX8_holdsChild) hd_X8_holdsChild rfl rfl ⟨(Nat.le_of_ble_eq_true rfl), (Nat.le_of_ble_eq_true rfl)⟩ [0, 1, 2, 3, 4, 5, 6, 7, 8, 9, 10, 11, 12, 13, 18] [0, 1, 2, 3, 4] rfl rfl rfl (ci := 8) (q0 := 0) rfl rfl rfl rfl rfl (Nat.le_of_ble_eq_true rfl) dX8_act_30 (fun r_48 u_49 hpo => ?_)
          obtain ⟨rfl, rfl⟩ := hpo
          refine s_st (st' := [.int (if hs3 = 0 ∧ (¬ nu3 < 0 ∧ nu3 < nI n) then 1 else 0)]) rfl ?_
          refine s_ws (ws' := [(bo, .inr (8, [.ref (an 0), .ref (ak 0), .int ik, .ref (bT), .ref (hT), .ref (ar 0), .ref (bS), .ref bV, .ref (th 0)])), (an 0, .inr (2, [.ref (an 1), .ref (an 2), .ref (an 3), .ref (an 4), .ref (an 5), .ref (an 6), .ref (an 7), .int (nI n), .ref (an 8), .ref (an 9), .ref (an 10), .ref (an 11), .int (nI td), .int z, .ref (an 12)])), (an 1, .inl (g 0, 8, .inl kd)), (an 2, .inl (g 0, 8, .inl ka)), (an 3, .inl (g 0, 8, .inl ho)), (an 4, .inl (g 0, 8, .inl fa)), (an 5, .inl (g 0, 8, .inl si)), (an 6, .inl (g 0, 8, .inl kn)), (an 7, .inl (g 0, 8, .inl aw)), (an 8, .inl (g 0, 40, .inl ev)), (an 9, .inl (g 0, 40, .inl cr)), (an 10, .inl (g 0, 40, .inl tr)), (an 11, .inl (g 0, 4, .inl lw)), (an 12, .inr (0, [.int (q 0), .int (q 1), .int (q 2), .int (q 3), .int (q 4), .int (q 5), .int (q 6), .int (q 7), .int (q 8)])), (bV, .inl (g 4, 4, .inr (.inr (.inr (.inr (fun j => some (av j))))))), (av 0, .inr (4, [.int hs0, .int nu0, .int ss0])), (av 1, .inr (4, [.int hs1, .int nu1, .int ss1])), (av 2, .inr (4, [.int hs2, .int nu2, .int ss2])), (av 3, .inr (4, [.int hs3, .int nu3, .int ss3])), (th 0, .inr (6, [.ref (th 1), .int (nI 0), .int tk, .int tn, .int ta, .int 0])), (th 1, .inl (g 0, 30, .inl tc))]) rfl ?_
          refine s_bif_ne (tgt := 38) B dX8_act_33 rfl (fun h33 => ?_) (fun h33 => ?_)
          · refine s_aload_n B dX8_act_38 rfl 0 rfl ?_
            refine s_get (T := TX8) B inX8 0 rfl rfl 7 (Nat.le_of_ble_eq_true rfl) fl_X8_52 rfl rfl dX8_act_39 ?_
            refine s_iload_n B dX8_act_42 rfl 1 rfl ?_
            refine s_aldqN B 14 4 rfl rfl dX8_act_43 (by omega) (by decide) rfl ?_
            obtain ⟨k_50, hk_51, rfl⟩ := nat_lt2 (N := n) h33.2.1 h33.2.2 (by omega)
            refine s_get (T := TX4) B inX4 18 rfl rfl 1 (Nat.le_of_ble_eq_true rfl) fl_X8_264 rfl rfl dX8_act_44 ?_
            refine s_istore (lv' := [(4, _), (0, _), (1, _), (2, _), (3, _)]) B dX8_act_47 (Nat.le_of_ble_eq_true rfl) rfl ?_
            refine s_aload_n B dX8_act_49 rfl 1 rfl ?_
            refine s_get (T := TX8) B inX8 0 rfl rfl 8 (Nat.le_of_ble_eq_true rfl) fl_X8_59 rfl rfl dX8_act_50 ?_
            refine s_aload_n B dX8_act_53 rfl 1 rfl ?_
            refine s_get (T := TX8) B inX8 0 rfl rfl 0 (Nat.le_of_ble_eq_true rfl) fl_X8_10 rfl rfl dX8_act_54 ?_
            refine s_get (T := TX2) B inX2 1 rfl rfl 0 (Nat.le_of_ble_eq_true rfl) fl_X8_109 rfl rfl dX8_act_57 ?_
            refine s_iload B dX8_act_60 0 rfl ?_
            refine s_ialdN B 2 0 rfl rfl dX8_act_62 (by omega) (by decide) ?_
            refine s_iload B dX8_act_63 0 rfl ?_
            refine s_aload_n B dX8_act_65 rfl 1 rfl ?_
            refine s_get (T := TX8) B inX8 0 rfl rfl 0 (Nat.le_of_ble_eq_true rfl) fl_X8_10 rfl rfl dX8_act_66 ?_
            refine s_get (T := TX2) B inX2 1 rfl rfl 1 (Nat.le_of_ble_eq_true rfl) fl_X8_113 rfl rfl dX8_act_69 ?_
            refine s_iload B dX8_act_72 0 rfl ?_
            refine s_ialdN B 3 0 rfl rfl dX8_act_74 (by omega) (by decide) ?_
            refine s_iload_n B dX8_act_75 rfl 3 rfl ?_
            refine s_iload_n B dX8_act_76 rfl 4 rfl ?_
            refine s_callVi B hsc (c_X6_answerOf l D g th 0 tk tn ta 0 tc (kd k_50) (nI k_50) (ka k_50) c0 x0 (by omega)) (gw_V ml_X8_277 im_yX6_answerOf se_yX6_answerOf ini_RX6 co_yX6_answerOf) hd_X6_answerOf rfl rfl ⟨(Nat.le_of_ble_eq_true rfl), (Nat.le_of_ble_eq_true rfl)⟩ [19, 20] [0, 1, 2, 3, 4] rfl rfl rfl (ci := 6) (q0 := 0) rfl rfl rfl rfl rfl (Nat.le_of_ble_eq_true rfl) dX8_act_77 (fun r_52 u_53 hpo => ?_)
            obtain ⟨rn_54, tk_55, tn_56, ta_57, tp__58, tc_59, hb_60, hf_61, rfl⟩ := hpo
            refine s_ws (ws' := [(bo, .inr (8, [.ref (an 0), .ref (ak 0), .int ik, .ref (bT), .ref (hT), .ref (ar 0), .ref (bS), .ref bV, .ref (th 0)])), (an 0, .inr (2, [.ref (an 1), .ref (an 2), .ref (an 3), .ref (an 4), .ref (an 5), .ref (an 6), .ref (an 7), .int (nI n), .ref (an 8), .ref (an 9), .ref (an 10), .ref (an 11), .int (nI td), .int z, .ref (an 12)])), (an 1, .inl (g 0, 8, .inl kd)), (an 2, .inl (g 0, 8, .inl ka)), (an 3, .inl (g 0, 8, .inl ho)), (an 4, .inl (g 0, 8, .inl fa)), (an 5, .inl (g 0, 8, .inl si)), (an 6, .inl (g 0, 8, .inl kn)), (an 7, .inl (g 0, 8, .inl aw)), (an 8, .inl (g 0, 40, .inl ev)), (an 9, .inl (g 0, 40, .inl cr)), (an 10, .inl (g 0, 40, .inl tr)), (an 11, .inl (g 0, 4, .inl lw)), (an 12, .inr (0, [.int (q 0), .int (q 1), .int (q 2), .int (q 3), .int (q 4), .int (q 5), .int (q 6), .int (q 7), .int (q 8)])), (bV, .inl (g 4, 4, .inr (.inr (.inr (.inr (fun j => some (av j))))))), (av 0, .inr (4, [.int hs0, .int nu0, .int ss0])), (av 1, .inr (4, [.int hs1, .int nu1, .int ss1])), (av 2, .inr (4, [.int hs2, .int nu2, .int ss2])), (av 3, .inr (4, [.int hs3, .int (nI k_50), .int ss3])), (th 0, .inr (6, [.ref (th 1), .int (nI rn_54), .int tk_55, .int tn_56, .int ta_57, .int tp__58])), (th 1, .inl (g 0, 30, .inl tc_59))]) rfl ?_
            refine s_iret B hQ hr dX8_act_80 rfl ?_
            exact ⟨rn_54, tk_55, tn_56, ta_57, tp__58, tc_59, by omega, (cg_act_ok (G := (n, kd, ka, ho, fa, si, kn, aw, ev, cr, tr, lw, td, z)) (by clear hQ B hr hsc; have ec0 : (nI 0).toNatClampNeg = 0 := (by decide); have ec1 : (nI 1).toNatClampNeg = 1 := (by decide); have ec2 : (nI 2).toNatClampNeg = 2 := (by decide); have ec3 : (nI 3).toNatClampNeg = 3 := (by decide); grind [v4]) (by rfl) (by omega) hf_61), rfl⟩
          · refine s_iconst B dX8_act_36 ic_0 ?_
            refine s_iret B hQ hr dX8_act_37 rfl ?_
            exact ⟨0, tk, tn, ta, 0, tc, by omega, (cg_act_no (G := (n, kd, ka, ho, fa, si, kn, aw, ev, cr, tr, lw, td, z)) (by clear hQ B hr hsc; have ec0 : (nI 0).toNatClampNeg = 0 := (by decide); have ec1 : (nI 1).toNatClampNeg = 1 := (by decide); have ec2 : (nI 2).toNatClampNeg = 2 := (by decide); have ec3 : (nI 3).toNatClampNeg = 3 := (by decide); grind [v4])), rfl⟩
