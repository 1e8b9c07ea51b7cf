def rmX9_draw : Room := { frames := 4, cells := 0, slots := 0, locals := 96 }
theorem hd_X9_draw : yX9_draw.cls = RX9 ∧ yX9_draw.cls ≠ "java/lang/invoke/MethodHandle" ∧ yX9_draw.cls ≠ "java/lang/invoke/VarHandle" ∧ (parseMethodDescriptor yX9_draw.desc).map (fun d => d.parameters.length) = some 0 := by decide +kernel
set_option maxHeartbeats 4000000 in
set_option maxRecDepth 100000 in
theorem c_X9_draw (l : Launch) (D : va_G) (g : Nat → ClassId) (b : Nat → Nat) (I : Nat → Int32) (W : Int64) (n p0 t q mm bd : Nat) (a_child : Nat → Int32) (a_row : Nat → Int32) (a_events : Nat → Int32) (a_laws : Nat → Int32) (hn : n ≤ 8) (hp : p0 = 0 ∨ p0 = 25) (ht : t ≤ 240) (hq0 : q ≤ 20) (hmm : mm ≤ 20) (hbd : bd ≤ 30) (ok_a_row : RowOk a_row) : Ci l yX9_draw (WW yX9_draw cX9_draw 4 (some FieldType.int)) rmX9_draw D vwCl (TY g) [.ref (b 0)] [(b 0, .inr (9, [.int (nI n), .ref (b 1), .ref (b 2), .int (nI 0), .ref (b 3), .ref (b 4), .ref (b 5), .ref (b 6), .ref (b 7), .ref (b 8), .int (I 10), .ref (b 9), .int (nI t), .int (I 13), .int (I 14), .int (I 15), .long W, .int (I 17), .int (I 18), .int (I 19), .int (I 20), .ref (b 10), .ref (b 11), .ref (b 12), .ref (b 13), .ref (b 14), .ref (b 15), .int (nI q), .int (nI mm), .ref (b 16), .ref (b 17), .ref (b 18), .ref (b 19), .ref (b 20), .ref (b 21), .int (I 35), .int (I 36), .int (I 37), .ref (b 22), .int (nI bd), .int (I 40), .int (I 41), .ref (b 23), .int (I 43), .ref (b 24)])), (b 1, .inl (g 0, 32, .inl a_child)), (b 2, .inl (g 0, 50, .inl a_row)), (b 3, .inl (g 0, 40, .inl a_events)), (b 6, .inl (g 0, 4, .inl a_laws))] (fun r u => ∃ (z' : Int32), (∀ (G : MG) (cr9 tr9 : MA), RG G n a_child a_row a_events cr9 tr9 a_laws (I 10) → RG (gDraw G) n a_child a_row a_events cr9 tr9 a_laws z') ∧ u = [(b 0, .inr (9, [.int (nI n), .ref (b 1), .ref (b 2), .int (nI 0), .ref (b 3), .ref (b 4), .ref (b 5), .ref (b 6), .ref (b 7), .ref (b 8), .int z', .ref (b 9), .int (nI t), .int (I 13), .int (I 14), .int (I 15), .long W, .int (I 17), .int (I 18), .int (I 19), .int (I 20), .ref (b 10), .ref (b 11), .ref (b 12), .ref (b 13), .ref (b 14), .ref (b 15), .int (nI q), .int (nI mm), .ref (b 16), .ref (b 17), .ref (b 18), .ref (b 19), .ref (b 20), .ref (b 21), .int (I 35), .int (I 36), .int (I 37), .ref (b 22), .int (nI bd), .int (I 40), .int (I 41), .ref (b 23), .int (I 43), .ref (b 24)])), (b 1, .inl (g 0, 32, .inl a_child)), (b 2, .inl (g 0, 50, .inl a_row)), (b 3, .inl (g 0, 40, .inl a_events)), (b 6, .inl (g 0, 4, .inl a_laws))]) := by
  refine ci_in (by decide) (Nat.le_of_ble_eq_true rfl) (a0 := [b 0, b 1, b 2, b 3, b 6]) rfl (fun p e s m args below meth c A Q hQ B hr hsc => ?_)
  refine s_aload_n B dX9_draw_0 rfl 0 rfl ?_
  refine s_get (T := TX9) B inX9 0 rfl rfl 2 (Nat.le_of_ble_eq_true rfl) fl_X9_13 rfl rfl dX9_draw_1 ?_
  refine s_iconst B dX9_draw_4 ic_0 ?_
  refine s_ialdN B 2 0 rfl rfl dX9_draw_5 (by decide) (by decide) ?_
  obtain ⟨d_1, hd_2, hr__3⟩ : le40 (a_row 0) := RowOk.at ok_a_row (by omega)
  refine s_st (st' := [.int (nI d_1)]) (by rw [hr__3]) ?_
  refine s_bipush B dX9_draw_6 bp_40 ?_
  refine s_icmp_ne (tgt := 14) B dX9_draw_8 rfl (fun h8 => ?_) (fun h8 => ?_)
  · replace h8 : ¬ d_1 = 40 := fun hh => h8 ((nI_eq (a := d_1) (b := 40) (by omega) (by omega)).mpr hh)
    have L18 : ∀ (jj18 : Nat) (v_4 : Int32) (k_5 : Nat), n - k_5 < jj18 → (d_1 ≤ 40) → (a_row 0 = nI d_1) → (¬ d_1 = 40) → (k_5 ≤ n) → (v_4.toBitVec.toNat < 256) → (v_4 = mBits (fTh a_child a_row a_events a_laws 0 d_1) k_5) → Sx p l e rmX9_draw s m args below meth c D vwCl A 4 Q 18 [(0, .ref (b 0)), (1, .int v_4), (2, .int (nI k_5))] [] [(b 0, .inr (9, [.int (nI n), .ref (b 1), .ref (b 2), .int (nI 0), .ref (b 3), .ref (b 4), .ref (b 5), .ref (b 6), .ref (b 7), .ref (b 8), .int (I 10), .ref (b 9), .int (nI t), .int (I 13), .int (I 14), .int (I 15), .long W, .int (I 17), .int (I 18), .int (I 19), .int (I 20), .ref (b 10), .ref (b 11), .ref (b 12), .ref (b 13), .ref (b 14), .ref (b 15), .int (nI q), .int (nI mm), .ref (b 16), .ref (b 17), .ref (b 18), .ref (b 19), .ref (b 20), .ref (b 21), .int (I 35), .int (I 36), .int (I 37), .ref (b 22), .int (nI bd), .int (I 40), .int (I 41), .ref (b 23), .int (I 43), .ref (b 24)])), (b 1, .inl (g 0, 32, .inl a_child)), (b 2, .inl (g 0, 50, .inl a_row)), (b 3, .inl (g 0, 40, .inl a_events)), (b 6, .inl (g 0, 4, .inl a_laws))] := by
      intro jj18
      induction jj18 with
      | zero => intro v_4 k_5 hj; exact absurd hj (Nat.not_lt_zero _)
      | succ jj18 ih18 =>
        intro v_4 k_5 hj18 hd_2 hr__3 h8 h_6 hb_7 hT_8
        refine s_iload_n B dX9_draw_18 rfl 2 rfl ?_
        refine s_aload_n B dX9_draw_19 rfl 0 rfl ?_
        refine s_get (T := TX9) B inX9 0 rfl rfl 0 (Nat.le_of_ble_eq_true rfl) fl_X9_91 rfl rfl dX9_draw_20 ?_
        refine s_icmp_ge (tgt := 50) B dX9_draw_23 rfl (fun h23 => ?_) (fun h23 => ?_)
        · replace h23 : n ≤ k_5 := (nI_leI (a := n) (b := k_5) (by omega) (by omega)).mp h23
          refine s_iload_n B dX9_draw_50 rfl 1 rfl ?_
          refine s_if_ne (tgt := 57) B dX9_draw_51 rfl (fun h51 => ?_) (fun h51 => ?_)
          · refine s_aload_n B dX9_draw_57 rfl 0 rfl ?_
            refine s_aload_n B dX9_draw_58 rfl 0 rfl ?_
            refine s_get (T := TX9) B inX9 0 rfl rfl 10 (Nat.le_of_ble_eq_true rfl) fl_X9_34 rfl rfl dX9_draw_59 ?_
            refine s_ldcw B cn_X9_256 dX9_draw_62 ?_
            refine s_imul B dX9_draw_65 ?_
            refine s_sipush B dX9_draw_66 sp_12345 ?_
            refine s_iadd B dX9_draw_69 ?_
            refine s_put (T := TX9) (ws' := [_, _, _, _, _]) B inX9 tyX9_ok nmX9 0 rfl rfl 10 (Nat.le_of_ble_eq_true rfl) fl_X9_34 rfl rfl rfl rfl (Nat.le_of_ble_eq_true rfl) rfl dX9_draw_70 ?_
            refine s_aload_n B dX9_draw_73 rfl 0 rfl ?_
            refine s_get (T := TX9) B inX9 0 rfl rfl 10 (Nat.le_of_ble_eq_true rfl) fl_X9_34 rfl rfl dX9_draw_74 ?_
            refine s_bipush B dX9_draw_77 bp_16 ?_
            refine s_iushr (v := mUshr (((I 10) * 1103515245) + 12345) 16) B dX9_draw_79 rfl ?_
            refine s_iload_n B dX9_draw_80 rfl 1 rfl ?_
            refine s_callSi B hsc (c_X9_ones l D g v_4) (gw_S ml_X9_244 sm_yX9_ones ini_RX9 co_yX9_ones) hd_X9_ones rfl rfl ⟨(Nat.le_of_ble_eq_true rfl), (Nat.le_of_ble_eq_true rfl)⟩ [] [0, 1, 2, 3, 4] rfl rfl rfl rfl rfl (Nat.le_of_ble_eq_true rfl) dX9_draw_81 (fun r_9 u_10 hpo => ?_)
            obtain ⟨⟨c_11, rfl, ho_12, ho_13, ho_14⟩, rfl⟩ := hpo
            refine s_ws (ws' := [(b 0, .inr (9, [.int (nI n), .ref (b 1), .ref (b 2), .int (nI 0), .ref (b 3), .ref (b 4), .ref (b 5), .ref (b 6), .ref (b 7), .ref (b 8), .int (((I 10) * 1103515245) + 12345), .ref (b 9), .int (nI t), .int (I 13), .int (I 14), .int (I 15), .long W, .int (I 17), .int (I 18), .int (I 19), .int (I 20), .ref (b 10), .ref (b 11), .ref (b 12), .ref (b 13), .ref (b 14), .ref (b 15), .int (nI q), .int (nI mm), .ref (b 16), .ref (b 17), .ref (b 18), .ref (b 19), .ref (b 20), .ref (b 21), .int (I 35), .int (I 36), .int (I 37), .ref (b 22), .int (nI bd), .int (I 40), .int (I 41), .ref (b 23), .int (I 43), .ref (b 24)])), (b 1, .inl (g 0, 32, .inl a_child)), (b 2, .inl (g 0, 50, .inl a_row)), (b 3, .inl (g 0, 40, .inl a_events)), (b 6, .inl (g 0, 4, .inl a_laws))]) rfl ?_
            refine s_irem B dX9_draw_84 (nI_nz (by clear hQ B hr hsc; grind) (by omega)) ?_
            obtain ⟨pl, hpl, hple⟩ := rem_nat (x := mUshr ((I 10 * 1103515245) + 12345) 16) (c := c_11) (ushr_pos _) (ho_13 h51) (by omega)
            refine s_st (st' := [.int (nI pl)]) (by rw [hple]) ?_
            obtain ⟨i0, hi0, hi1⟩ := set_has hb_7 h51
            refine s_istore_n (lv' := [(2, _), (0, _), (1, _)]) B dX9_draw_85 rfl (Nat.le_of_ble_eq_true rfl) rfl ?_
            have L88 : ∀ (jj88 : Nat) (pk_17 : Nat) (cc_19 : Nat), pk_17 * 33 + (i0 + 32 - cc_19 % 32) % 32 < jj88 → (d_1 ≤ 40) → (a_row 0 = nI d_1) → (¬ d_1 = 40) → (k_5 ≤ n) → (v_4.toBitVec.toNat < 256) → (v_4 = mBits (fTh a_child a_row a_events a_laws 0 d_1) k_5) → (n ≤ k_5) → (¬ v_4 = 0) → (c_11 ≤ (v_4).toBitVec.toNat) → (¬ v_4 = 0 → 1 ≤ c_11) → ((v_4).toBitVec.toNat < 256 → nI c_11 = mPop v_4) → (pl < 256) → (i0 < 8) → (¬ (v_4 >>> (nI i0 &&& 31)) &&& 1 = 0) → (pk_17 ≤ 256) → (0 ≤ cc_19) → Sx p l e rmX9_draw s m args below meth c D vwCl A 4 Q 88 [(1, .int v_4), (2, .int (nI pk_17)), (3, .int (nI cc_19))] [] [(b 0, .inr (9, [.int (nI n), .ref (b 1), .ref (b 2), .int (nI 0), .ref (b 3), .ref (b 4), .ref (b 5), .ref (b 6), .ref (b 7), .ref (b 8), .int (((I 10) * 1103515245) + 12345), .ref (b 9), .int (nI t), .int (I 13), .int (I 14), .int (I 15), .long W, .int (I 17), .int (I 18), .int (I 19), .int (I 20), .ref (b 10), .ref (b 11), .ref (b 12), .ref (b 13), .ref (b 14), .ref (b 15), .int (nI q), .int (nI mm), .ref (b 16), .ref (b 17), .ref (b 18), .ref (b 19), .ref (b 20), .ref (b 21), .int (I 35), .int (I 36), .int (I 37), .ref (b 22), .int (nI bd), .int (I 40), .int (I 41), .ref (b 23), .int (I 43), .ref (b 24)])), (b 1, .inl (g 0, 32, .inl a_child)), (b 2, .inl (g 0, 50, .inl a_row)), (b 3, .inl (g 0, 40, .inl a_events)), (b 6, .inl (g 0, 4, .inl a_laws))] := by
              intro jj88
              induction jj88 with
              | zero => intro pk_17 cc_19 hj; exact absurd hj (Nat.not_lt_zero _)
              | succ jj88 ih88 =>
                intro pk_17 cc_19 hj88 hd_2 hr__3 h8 h_6 hb_7 hT_8 h23 h51 ho_12 ho_13 ho_14 hpl hi0 hi1 h_18 h_20
                refine s_iload_n B dX9_draw_88 rfl 0 rfl ?_
                refine s_iload_n B dX9_draw_89 rfl 2 rfl ?_
                refine s_ishr B dX9_draw_90 ?_
                refine s_iconst B dX9_draw_91 ic_1 ?_
                refine s_iand B dX9_draw_92 ?_
                refine s_if_eq (tgt := 100) B dX9_draw_93 rfl (fun h93 => ?_) (fun h93 => ?_)
                · refine s_iload_n B dX9_draw_100 rfl 1 rfl ?_
                  refine s_iload_n B dX9_draw_101 rfl 0 rfl ?_
                  refine s_iload_n B dX9_draw_102 rfl 2 rfl ?_
                  refine s_ishr B dX9_draw_103 ?_
                  refine s_iconst B dX9_draw_104 ic_1 ?_
                  refine s_iand B dX9_draw_105 ?_
                  refine s_isub B dX9_draw_106 ?_
                  refine s_st (st' := [.int (nI pk_17)]) (by rw [h93, Int32.sub_zero]) ?_
                  refine s_istore_n (lv' := [(2, _), (1, _), (3, _)]) B dX9_draw_107 rfl (Nat.le_of_ble_eq_true rfl) rfl ?_
                  refine s_iinc (lv' := [(3, _), (2, _), (1, _)]) (k := 2) B dX9_draw_108 rfl (ii_n _) (Nat.le_of_ble_eq_true rfl) rfl ?_
                  refine s_goto (tgt := 88) B dX9_draw_111 rfl ?_
                  refine s_lv (lv' := [(1, _), (2, _), (3, _)]) [2, 1, 0] rfl ?_
                  exact ih88 pk_17 (cc_19 + 1) (by have q0 : ¬ cc_19 % 32 = i0 := (fun e => by have q1 : nI cc_19 &&& 31 = nI i0 &&& 31 := (by rw [and_mod, and_mod, ← e, Nat.mod_mod]); rw [q1] at h93; exact hi1 h93); omega) hd_2 hr__3 h8 h_6 hb_7 hT_8 h23 h51 ho_12 ho_13 ho_14 hpl hi0 hi1 (by omega) (by omega)
                · refine s_iload_n B dX9_draw_96 rfl 1 rfl ?_
                  refine s_if_le (tgt := 114) B dX9_draw_97 rfl (fun h97 => ?_) (fun h97 => ?_)
                  · replace h97 : pk_17 ≤ 0 := (nI_leI (a := pk_17) (b := 0) (by omega) (by omega)).mp h97
                    refine s_iload_n B dX9_draw_114 rfl 2 rfl ?_
                    refine s_iret B hQ hr dX9_draw_115 rfl ?_
                    exact ⟨(((I 10) * 1103515245) + 12345), (fun G cr9 tr9 H => (H.draw_ok hr__3 (by omega) hT_8 (by omega) h51)), rfl⟩
                  · replace h97 : ¬ pk_17 ≤ 0 := fun hh => h97 ((nI_leI (a := pk_17) (b := 0) (by omega) (by omega)).mpr hh)
                    refine s_iload_n B dX9_draw_100 rfl 1 rfl ?_
                    refine s_iload_n B dX9_draw_101 rfl 0 rfl ?_
                    refine s_iload_n B dX9_draw_102 rfl 2 rfl ?_
                    refine s_ishr B dX9_draw_103 ?_
                    refine s_iconst B dX9_draw_104 ic_1 ?_
                    refine s_iand B dX9_draw_105 ?_
                    refine s_isub B dX9_draw_106 ?_
                    refine s_st (st' := [.int (nI (pk_17 - 1))]) (by rw [bit_sub (by omega) h93 (and1 _)]) ?_
                    refine s_istore_n (lv' := [(2, _), (1, _), (3, _)]) B dX9_draw_107 rfl (Nat.le_of_ble_eq_true rfl) rfl ?_
                    refine s_iinc (lv' := [(3, _), (2, _), (1, _)]) (k := 2) B dX9_draw_108 rfl (ii_n _) (Nat.le_of_ble_eq_true rfl) rfl ?_
                    refine s_goto (tgt := 88) B dX9_draw_111 rfl ?_
                    refine s_lv (lv' := [(1, _), (2, _), (3, _)]) [2, 1, 0] rfl ?_
                    exact ih88 (pk_17 - 1) (cc_19 + 1) (by omega) hd_2 hr__3 h8 h_6 hb_7 hT_8 h23 h51 ho_12 ho_13 ho_14 hpl hi0 hi1 (by omega) (by omega)
            refine s_iconst B dX9_draw_86 ic_0 ?_
            refine s_istore_n (lv' := [(3, _), (2, _), (0, _), (1, _)]) B dX9_draw_87 rfl (Nat.le_of_ble_eq_true rfl) rfl ?_
            refine s_lv (lv' := [(1, _), (2, _), (3, _)]) [3, 1, 0] rfl ?_
            refine s_lve (lv' := [(1, .int v_4), (2, .int (nI pl)), (3, .int (nI 0))]) (by first | rfl | (simp only [if_pos, if_neg]; done)) ?_
            exact L88 _ pl 0 (Nat.lt_succ_self _) hd_2 hr__3 h8 h_6 hb_7 hT_8 h23 h51 ho_12 ho_13 ho_14 hpl hi0 hi1 (by omega) (by omega)
          · refine s_bipush B dX9_draw_54 bp_m3 ?_
            refine s_iret B hQ hr dX9_draw_56 rfl ?_
            exact ⟨(I 10), (fun G cr9 tr9 H => (H.draw_no hr__3 (by omega) hT_8 (by omega) h51)), rfl⟩
        · replace h23 : ¬ n ≤ k_5 := fun hh => h23 ((nI_leI (a := n) (b := k_5) (by omega) (by omega)).mpr hh)
          refine s_iload_n B dX9_draw_26 rfl 1 rfl ?_
          refine s_aload_n B dX9_draw_27 rfl 0 rfl ?_
          refine s_iload_n B dX9_draw_28 rfl 2 rfl ?_
          refine s_callVi B hsc (c_X9_wouldBe l D g b (upd (upd (upd (upd I 12 (nI t)) 27 (nI q)) 28 (nI mm)) 39 (nI bd)) W n 0 a_child a_row a_events a_laws k_5 d_1 (by omega) (by omega) (by omega) hr__3) (gw_V ml_X9_229 im_yX9_wouldBe se_yX9_wouldBe ini_RX9 co_yX9_wouldBe) hd_X9_wouldBe rfl rfl ⟨(Nat.le_of_ble_eq_true rfl), (Nat.le_of_ble_eq_true rfl)⟩ [0, 1, 2, 3, 4] [0, 1, 2, 3, 4] rfl rfl rfl (ci := 9) (q0 := 0) rfl rfl rfl rfl rfl (Nat.le_of_ble_eq_true rfl) dX9_draw_29 (fun r_15 u_16 hpo => ?_)
          obtain ⟨rfl, rfl⟩ := hpo
          refine s_st (st' := [.int (if mAway (a_child (4 * k_5 + 0)) (a_child (4 * k_5 + 1)) (a_child (4 * k_5 + 3)) (nI d_1) (a_events d_1) (decide (0 < a_row (0 + 1 + k_5))) (decide (0 < a_row (0 + 9 + k_5))) (a_row (0 + 17 + k_5)) (a_laws 1) = true then 1 else 0), .int v_4]) rfl ?_
          refine s_ws (ws' := [(b 0, .inr (9, [.int (nI n), .ref (b 1), .ref (b 2), .int (nI 0), .ref (b 3), .ref (b 4), .ref (b 5), .ref (b 6), .ref (b 7), .ref (b 8), .int (I 10), .ref (b 9), .int (nI t), .int (I 13), .int (I 14), .int (I 15), .long W, .int (I 17), .int (I 18), .int (I 19), .int (I 20), .ref (b 10), .ref (b 11), .ref (b 12), .ref (b 13), .ref (b 14), .ref (b 15), .int (nI q), .int (nI mm), .ref (b 16), .ref (b 17), .ref (b 18), .ref (b 19), .ref (b 20), .ref (b 21), .int (I 35), .int (I 36), .int (I 37), .ref (b 22), .int (nI bd), .int (I 40), .int (I 41), .ref (b 23), .int (I 43), .ref (b 24)])), (b 1, .inl (g 0, 32, .inl a_child)), (b 2, .inl (g 0, 50, .inl a_row)), (b 3, .inl (g 0, 40, .inl a_events)), (b 6, .inl (g 0, 4, .inl a_laws))]) rfl ?_
          refine s_bif_eq (tgt := 39) B dX9_draw_32 rfl (fun h32 => ?_) (fun h32 => ?_)
          · refine s_iconst B dX9_draw_39 ic_1 ?_
            refine s_iload_n B dX9_draw_40 rfl 2 rfl ?_
            refine s_ishl B dX9_draw_41 ?_
            refine s_ior B dX9_draw_42 ?_
            refine s_istore_n (lv' := [(1, _), (0, _), (2, _)]) B dX9_draw_43 rfl (Nat.le_of_ble_eq_true rfl) rfl ?_
            refine s_iinc (lv' := [(2, _), (1, _), (0, _)]) (k := 2) B dX9_draw_44 rfl (ii_n _) (Nat.le_of_ble_eq_true rfl) rfl ?_
            refine s_goto (tgt := 18) B dX9_draw_47 rfl ?_
            refine s_lv (lv' := [(0, _), (1, _), (2, _)]) [2, 1, 0] rfl ?_
            exact ih18 (v_4 ||| (1 <<< ((nI k_5) &&& 31))) (k_5 + 1) (by omega) hd_2 hr__3 h8 (by omega) (by first | decide | assumption | exact or_b0 (by assumption) | exact or_b1 (by assumption) (by omega)) (bits_1 hT_8 (fTh_t (by omega) h32))
          · refine s_iconst B dX9_draw_35 ic_0 ?_
            refine s_goto (tgt := 42) B dX9_draw_36 rfl ?_
            refine s_ior B dX9_draw_42 ?_
            refine s_istore_n (lv' := [(1, _), (0, _), (2, _)]) B dX9_draw_43 rfl (Nat.le_of_ble_eq_true rfl) rfl ?_
            refine s_iinc (lv' := [(2, _), (1, _), (0, _)]) (k := 2) B dX9_draw_44 rfl (ii_n _) (Nat.le_of_ble_eq_true rfl) rfl ?_
            refine s_goto (tgt := 18) B dX9_draw_47 rfl ?_
            refine s_lv (lv' := [(0, _), (1, _), (2, _)]) [2, 1, 0] rfl ?_
            exact ih18 (v_4 ||| 0) (k_5 + 1) (by omega) hd_2 hr__3 h8 (by omega) (by first | decide | assumption | exact or_b0 (by assumption) | exact or_b1 (by assumption) (by omega)) (bits_0 hT_8 (fTh_f (by omega) h32))
    refine s_iconst B dX9_draw_14 ic_0 ?_
    refine s_istore_n (lv' := [(1, _), (0, _)]) B dX9_draw_15 rfl (Nat.le_of_ble_eq_true rfl) rfl ?_
    refine s_iconst B dX9_draw_16 ic_0 ?_
    refine s_istore_n (lv' := [(2, _), (1, _), (0, _)]) B dX9_draw_17 rfl (Nat.le_of_ble_eq_true rfl) rfl ?_
    refine s_lv (lv' := [(0, _), (1, _), (2, _)]) [2, 1, 0] rfl ?_
    refine s_lve (lv' := [(0, .ref (b 0)), (1, .int 0), (2, .int (nI 0))]) (by first | rfl | (simp only [if_pos, if_neg]; done)) ?_
    exact L18 _ 0 0 (Nat.lt_succ_self _) hd_2 hr__3 h8 (by omega) (by first | decide | assumption | exact or_b0 (by assumption) | exact or_b1 (by assumption) (by omega)) rfl
  · replace h8 : d_1 = 40 := (nI_eq (a := d_1) (b := 40) (by omega) (by omega)).mp h8
    refine s_bipush B dX9_draw_11 bp_m4 ?_
    refine s_iret B hQ hr dX9_draw_13 rfl ?_
    exact ⟨(I 10), (fun G cr9 tr9 H => (H.draw_st (hr__3.trans (congrArg nI h8)))), rfl⟩
theorem mv_row {kp : Int32} {mv : Nat} {f kr : Nat → Int32} (h : RowOk f) (hk : kp = 0 → le40 (kr mv)) : RowOk (mvF kp mv f kr 25) := by
  refine ⟨?_, ?_⟩
  · by_cases e : kp = 0
    · unfold mvF; rw [if_pos ⟨e, by decide⟩]; exact hk e
    · rw [mvF_k e]; exact h.1
  · unfold mvF; rw [if_neg (fun x => absurd x.2 (by decide))]; exact h.2
def KeptOk (ik : Int32) (f : Nat → Int32) : Prop := ik = 0 ∨ ((∃ m : Nat, m ≤ 8 ∧ f 0 = nI m) ∧ le40 (f 34))
def rmX9_moveAll : Room := { frames := 1, cells := 0, slots := 0, locals := 24 }
theorem hd_X9_moveAll : yX9_moveAll.cls = RX9 ∧ yX9_moveAll.cls ≠ "java/lang/invoke/MethodHandle" ∧ yX9_moveAll.cls ≠ "java/lang/invoke/VarHandle" ∧ (parseMethodDescriptor yX9_moveAll.desc).map (fun d => d.parameters.length) = some 1 := by decide +kernel
set_option maxHeartbeats 4000000 in
set_option maxRecDepth 100000 in
theorem c_X9_moveAll (l : Launch) (D : va_G) (g : Nat → ClassId) (b : Nat → Nat) (I : Nat → Int32) (W : Int64) (n p0 t q mm bd : Nat) (a_single : Nat → Int32) (a_child : Nat → Int32) (a_row : Nat → Int32) (a_events : Nat → Int32) (a_crosses : Nat → Int32) (a_truth : Nat → Int32) (a_laws : Nat → Int32) (a_keptRow : Nat → Int32) (kp : Int32) (hn : n ≤ 8) (hp : p0 = 0 ∨ p0 = 25) (ht : t ≤ 240) (hq0 : q ≤ 20) (hmm : mm ≤ 20) (hbd : bd ≤ 30) (ok_a_row : RowOk a_row) (hpre0 : kp = 0 → le40 (a_keptRow 34)) : Cv l yX9_moveAll (WW yX9_moveAll cX9_moveAll 2 none) rmX9_moveAll D vwCl (TY g) [.ref (b 0), .int kp] [(b 0, .inr (9, [.int (nI n), .ref (b 1), .ref (b 2), .int (nI p0), .ref (b 3), .ref (b 4), .ref (b 5), .ref (b 6), .ref (b 7), .ref (b 8), .int (I 10), .ref (b 9), .int (nI t), .int (I 13), .int (I 14), .int (I 15), .long W, .int (I 17), .int (I 18), .int (I 19), .int (I 20), .ref (b 10), .ref (b 11), .ref (b 12), .ref (b 13), .ref (b 14), .ref (b 15), .int (nI q), .int (nI mm), .ref (b 16), .ref (b 17), .ref (b 18), .ref (b 19), .ref (b 20), .ref (b 21), .int (I 35), .int (I 36), .int (I 37), .ref (b 22), .int (nI bd), .int (I 40), .int (I 41), .ref (b 23), .int (I 43), .ref (b 24)])), (b 24, .inl (g 0, 2, .inl a_single)), (b 1, .inl (g 0, 32, .inl a_child)), (b 2, .inl (g 0, 50, .inl a_row)), (b 3, .inl (g 0, 40, .inl a_events)), (b 4, .inl (g 0, 40, .inl a_crosses)), (b 5, .inl (g 0, 40, .inl a_truth)), (b 6, .inl (g 0, 4, .inl a_laws)), (b 23, .inl (g 0, 190, .inl a_keptRow))] (fun u => ∃ (movedTo' : Int32) (a_single' : Nat → Int32) (a_child' : Nat → Int32) (a_row' : Nat → Int32) (a_events' : Nat → Int32) (a_crosses' : Nat → Int32) (a_truth' : Nat → Int32) (a_laws' : Nat → Int32) (a_keptRow' : Nat → Int32), (RowOk a_row') ∧ (¬ kp = 0 → a_keptRow' 0 = nI n ∧ a_keptRow' 34 = a_row 0) ∧ (kp = 0 → a_single' 0 = a_keptRow 0 ∧ a_keptRow' = a_keptRow) ∧ (¬ kp = 0 → a_row' = a_row) ∧ (kp = 0 → a_row' 0 = a_keptRow 34) ∧ (MvY kp n (I 10) a_child a_row a_events a_crosses a_truth a_laws a_keptRow' a_child' a_row' a_events' a_crosses' a_truth' a_laws') ∧ (MvN kp a_keptRow a_keptRow' a_single' a_child' a_row' a_events' a_crosses' a_truth' a_laws') ∧ u = [(b 0, .inr (9, [.int (nI n), .ref (b 1), .ref (b 2), .int (nI p0), .ref (b 3), .ref (b 4), .ref (b 5), .ref (b 6), .ref (b 7), .ref (b 8), .int (I 10), .ref (b 9), .int (nI t), .int (I 13), .int (I 14), .int (I 15), .long W, .int (I 17), .int (I 18), .int (I 19), .int (I 20), .ref (b 10), .ref (b 11), .ref (b 12), .ref (b 13), .ref (b 14), .ref (b 15), .int (nI q), .int (nI mm), .ref (b 16), .ref (b 17), .ref (b 18), .ref (b 19), .ref (b 20), .ref (b 21), .int (I 35), .int (I 36), .int (I 37), .ref (b 22), .int (nI bd), .int (I 40), .int (I 41), .ref (b 23), .int movedTo', .ref (b 24)])), (b 24, .inl (g 0, 2, .inl a_single')), (b 1, .inl (g 0, 32, .inl a_child')), (b 2, .inl (g 0, 50, .inl a_row')), (b 3, .inl (g 0, 40, .inl a_events')), (b 4, .inl (g 0, 40, .inl a_crosses')), (b 5, .inl (g 0, 40, .inl a_truth')), (b 6, .inl (g 0, 4, .inl a_laws')), (b 23, .inl (g 0, 190, .inl a_keptRow'))]) := by
  refine cv_in (by decide) (Nat.le_of_ble_eq_true rfl) (a0 := [b 0, b 24, b 1, b 2, b 3, b 4, b 5, b 6, b 23]) rfl (fun p e s m args below meth c A Q hQ B hr hsc => ?_)
  refine s_aload_n B dX9_moveAll_0 rfl 0 rfl ?_
  refine s_iconst B dX9_moveAll_1 ic_0 ?_
  refine s_put (T := TX9) (ws' := [_, _, _, _, _, _, _, _, _]) B inX9 tyX9_ok nmX9 0 rfl rfl 43 (Nat.le_of_ble_eq_true rfl) fl_X9_328 rfl rfl rfl rfl (Nat.le_of_ble_eq_true rfl) rfl dX9_moveAll_2 ?_
  refine s_aload_n B dX9_moveAll_5 rfl 0 rfl ?_
  refine s_get (T := TX9) B inX9 0 rfl rfl 44 (Nat.le_of_ble_eq_true rfl) fl_X9_84 rfl rfl dX9_moveAll_6 ?_
  refine s_iconst B dX9_moveAll_9 ic_0 ?_
  refine s_aload_n B dX9_moveAll_10 rfl 0 rfl ?_
  refine s_get (T := TX9) B inX9 0 rfl rfl 0 (Nat.le_of_ble_eq_true rfl) fl_X9_91 rfl rfl dX9_moveAll_11 ?_
  refine s_iastN (ws' := [_, _, _, _, _, _, _, _, _]) B 1 0 rfl rfl rfl dX9_moveAll_14 (by decide) (by decide) ?_
  refine s_aload_n B dX9_moveAll_15 rfl 0 rfl ?_
  refine s_get (T := TX9) B inX9 0 rfl rfl 44 (Nat.le_of_ble_eq_true rfl) fl_X9_84 rfl rfl dX9_moveAll_16 ?_
  refine s_iconst B dX9_moveAll_19 ic_1 ?_
  refine s_aload_n B dX9_moveAll_20 rfl 0 rfl ?_
  refine s_get (T := TX9) B inX9 0 rfl rfl 10 (Nat.le_of_ble_eq_true rfl) fl_X9_34 rfl rfl dX9_moveAll_21 ?_
  refine s_iastN (ws' := [_, _, _, _, _, _, _, _, _]) B 1 0 rfl rfl rfl dX9_moveAll_24 (by decide) (by decide) ?_
  refine s_aload_n B dX9_moveAll_25 rfl 0 rfl ?_
  refine s_aload_n B dX9_moveAll_26 rfl 0 rfl ?_
  refine s_get (T := TX9) B inX9 0 rfl rfl 44 (Nat.le_of_ble_eq_true rfl) fl_X9_84 rfl rfl dX9_moveAll_27 ?_
  refine s_iconst B dX9_moveAll_30 ic_2 ?_
  refine s_iload_n B dX9_moveAll_31 rfl 1 rfl ?_
  refine s_callVv B hsc (c_X9_moveRow l D g b I W n p0 t q mm bd 0 a_keptRow (b 24) 2 2 (upd (upd a_single 0 (nI n)) 1 (I 10)) kp (by decide) (by decide) (by decide)) (gw_V ml_X9_331 im_yX9_moveRow se_yX9_moveRow ini_RX9 co_yX9_moveRow) hd_X9_moveRow rfl rfl ⟨(Nat.le_of_ble_eq_true rfl), (Nat.le_of_ble_eq_true rfl)⟩ [0, 8, 1] [0, 1, 2, 3, 4] rfl rfl rfl (ci := 9) (q0 := 0) rfl rfl rfl rfl rfl (Nat.le_of_ble_eq_true rfl) dX9_moveAll_32 (fun u_1 hpo => ?_)
  subst hpo
  refine s_ws (ws' := [(b 0, .inr (9, [.int (nI n), .ref (b 1), .ref (b 2), .int (nI p0), .ref (b 3), .ref (b 4), .ref (b 5), .ref (b 6), .ref (b 7), .ref (b 8), .int (I 10), .ref (b 9), .int (nI t), .int (I 13), .int (I 14), .int (I 15), .long W, .int (I 17), .int (I 18), .int (I 19), .int (I 20), .ref (b 10), .ref (b 11), .ref (b 12), .ref (b 13), .ref (b 14), .ref (b 15), .int (nI q), .int (nI mm), .ref (b 16), .ref (b 17), .ref (b 18), .ref (b 19), .ref (b 20), .ref (b 21), .int (I 35), .int (I 36), .int (I 37), .ref (b 22), .int (nI bd), .int (I 40), .int (I 41), .ref (b 23), .int (nI 2), .ref (b 24)])), (b 24, .inl (g 0, 2, .inl (mvF kp 0 (upd (upd a_single 0 (nI n)) 1 (I 10)) a_keptRow 2))), (b 1, .inl (g 0, 32, .inl a_child)), (b 2, .inl (g 0, 50, .inl a_row)), (b 3, .inl (g 0, 40, .inl a_events)), (b 4, .inl (g 0, 40, .inl a_crosses)), (b 5, .inl (g 0, 40, .inl a_truth)), (b 6, .inl (g 0, 4, .inl a_laws)), (b 23, .inl (g 0, 190, .inl (mvK kp 0 (upd (upd a_single 0 (nI n)) 1 (I 10)) a_keptRow 2)))]) rfl ?_
  refine s_aload_n B dX9_moveAll_35 rfl 0 rfl ?_
  refine s_aload_n B dX9_moveAll_36 rfl 0 rfl ?_
  refine s_get (T := TX9) B inX9 0 rfl rfl 1 (Nat.le_of_ble_eq_true rfl) fl_X9_7 rfl rfl dX9_moveAll_37 ?_
  refine s_bipush B dX9_moveAll_40 bp_32 ?_
  refine s_iload_n B dX9_moveAll_42 rfl 1 rfl ?_
  refine s_callVv B hsc (c_X9_moveRow l D g b I W n p0 t q mm bd 2 (mvK kp 0 (upd (upd a_single 0 (nI n)) 1 (I 10)) a_keptRow 2) (b 1) 32 32 a_child kp (by decide) (by decide) (by decide)) (gw_V ml_X9_331 im_yX9_moveRow se_yX9_moveRow ini_RX9 co_yX9_moveRow) hd_X9_moveRow rfl rfl ⟨(Nat.le_of_ble_eq_true rfl), (Nat.le_of_ble_eq_true rfl)⟩ [0, 8, 2] [0, 1, 2, 3, 4] rfl rfl rfl (ci := 9) (q0 := 0) rfl rfl rfl rfl rfl (Nat.le_of_ble_eq_true rfl) dX9_moveAll_43 (fun u_2 hpo => ?_)
  subst hpo
  refine s_ws (ws' := [(b 0, .inr (9, [.int (nI n), .ref (b 1), .ref (b 2), .int (nI p0), .ref (b 3), .ref (b 4), .ref (b 5), .ref (b 6), .ref (b 7), .ref (b 8), .int (I 10), .ref (b 9), .int (nI t), .int (I 13), .int (I 14), .int (I 15), .long W, .int (I 17), .int (I 18), .int (I 19), .int (I 20), .ref (b 10), .ref (b 11), .ref (b 12), .ref (b 13), .ref (b 14), .ref (b 15), .int (nI q), .int (nI mm), .ref (b 16), .ref (b 17), .ref (b 18), .ref (b 19), .ref (b 20), .ref (b 21), .int (I 35), .int (I 36), .int (I 37), .ref (b 22), .int (nI bd), .int (I 40), .int (I 41), .ref (b 23), .int (nI 34), .ref (b 24)])), (b 24, .inl (g 0, 2, .inl (mvF kp 0 (upd (upd a_single 0 (nI n)) 1 (I 10)) a_keptRow 2))), (b 1, .inl (g 0, 32, .inl (mvF kp 2 a_child (mvK kp 0 (upd (upd a_single 0 (nI n)) 1 (I 10)) a_keptRow 2) 32))), (b 2, .inl (g 0, 50, .inl a_row)), (b 3, .inl (g 0, 40, .inl a_events)), (b 4, .inl (g 0, 40, .inl a_crosses)), (b 5, .inl (g 0, 40, .inl a_truth)), (b 6, .inl (g 0, 4, .inl a_laws)), (b 23, .inl (g 0, 190, .inl (mvK kp 2 a_child (mvK kp 0 (upd (upd a_single 0 (nI n)) 1 (I 10)) a_keptRow 2) 32)))]) rfl ?_
  refine s_aload_n B dX9_moveAll_46 rfl 0 rfl ?_
  refine s_aload_n B dX9_moveAll_47 rfl 0 rfl ?_
  refine s_get (T := TX9) B inX9 0 rfl rfl 2 (Nat.le_of_ble_eq_true rfl) fl_X9_13 rfl rfl dX9_moveAll_48 ?_
  refine s_bipush B dX9_moveAll_51 bp_25 ?_
  refine s_iload_n B dX9_moveAll_53 rfl 1 rfl ?_
  refine s_callVv B hsc (c_X9_moveRow l D g b I W n p0 t q mm bd 34 (mvK kp 2 a_child (mvK kp 0 (upd (upd a_single 0 (nI n)) 1 (I 10)) a_keptRow 2) 32) (b 2) 50 25 a_row kp (by decide) (by decide) (by decide)) (gw_V ml_X9_331 im_yX9_moveRow se_yX9_moveRow ini_RX9 co_yX9_moveRow) hd_X9_moveRow rfl rfl ⟨(Nat.le_of_ble_eq_true rfl), (Nat.le_of_ble_eq_true rfl)⟩ [0, 8, 3] [0, 1, 2, 3, 4] rfl rfl rfl (ci := 9) (q0 := 0) rfl rfl rfl rfl rfl (Nat.le_of_ble_eq_true rfl) dX9_moveAll_54 (fun u_3 hpo => ?_)
  subst hpo
  refine s_ws (ws' := [(b 0, .inr (9, [.int (nI n), .ref (b 1), .ref (b 2), .int (nI p0), .ref (b 3), .ref (b 4), .ref (b 5), .ref (b 6), .ref (b 7), .ref (b 8), .int (I 10), .ref (b 9), .int (nI t), .int (I 13), .int (I 14), .int (I 15), .long W, .int (I 17), .int (I 18), .int (I 19), .int (I 20), .ref (b 10), .ref (b 11), .ref (b 12), .ref (b 13), .ref (b 14), .ref (b 15), .int (nI q), .int (nI mm), .ref (b 16), .ref (b 17), .ref (b 18), .ref (b 19), .ref (b 20), .ref (b 21), .int (I 35), .int (I 36), .int (I 37), .ref (b 22), .int (nI bd), .int (I 40), .int (I 41), .ref (b 23), .int (nI 59), .ref (b 24)])), (b 24, .inl (g 0, 2, .inl (mvF kp 0 (upd (upd a_single 0 (nI n)) 1 (I 10)) a_keptRow 2))), (b 1, .inl (g 0, 32, .inl (mvF kp 2 a_child (mvK kp 0 (upd (upd a_single 0 (nI n)) 1 (I 10)) a_keptRow 2) 32))), (b 2, .inl (g 0, 50, .inl (mvF kp 34 a_row (mvK kp 2 a_child (mvK kp 0 (upd (upd a_single 0 (nI n)) 1 (I 10)) a_keptRow 2) 32) 25))), (b 3, .inl (g 0, 40, .inl a_events)), (b 4, .inl (g 0, 40, .inl a_crosses)), (b 5, .inl (g 0, 40, .inl a_truth)), (b 6, .inl (g 0, 4, .inl a_laws)), (b 23, .inl (g 0, 190, .inl (mvK kp 34 a_row (mvK kp 2 a_child (mvK kp 0 (upd (upd a_single 0 (nI n)) 1 (I 10)) a_keptRow 2) 32) 25)))]) rfl ?_
  refine s_aload_n B dX9_moveAll_57 rfl 0 rfl ?_
  refine s_aload_n B dX9_moveAll_58 rfl 0 rfl ?_
  refine s_get (T := TX9) B inX9 0 rfl rfl 4 (Nat.le_of_ble_eq_true rfl) fl_X9_16 rfl rfl dX9_moveAll_59 ?_
  refine s_bipush B dX9_moveAll_62 bp_40 ?_
  refine s_iload_n B dX9_moveAll_64 rfl 1 rfl ?_
  refine s_callVv B hsc (c_X9_moveRow l D g b I W n p0 t q mm bd 59 (mvK kp 34 a_row (mvK kp 2 a_child (mvK kp 0 (upd (upd a_single 0 (nI n)) 1 (I 10)) a_keptRow 2) 32) 25) (b 3) 40 40 a_events kp (by decide) (by decide) (by decide)) (gw_V ml_X9_331 im_yX9_moveRow se_yX9_moveRow ini_RX9 co_yX9_moveRow) hd_X9_moveRow rfl rfl ⟨(Nat.le_of_ble_eq_true rfl), (Nat.le_of_ble_eq_true rfl)⟩ [0, 8, 4] [0, 1, 2, 3, 4] rfl rfl rfl (ci := 9) (q0 := 0) rfl rfl rfl rfl rfl (Nat.le_of_ble_eq_true rfl) dX9_moveAll_65 (fun u_4 hpo => ?_)
  subst hpo
  refine s_ws (ws' := [(b 0, .inr (9, [.int (nI n), .ref (b 1), .ref (b 2), .int (nI p0), .ref (b 3), .ref (b 4), .ref (b 5), .ref (b 6), .ref (b 7), .ref (b 8), .int (I 10), .ref (b 9), .int (nI t), .int (I 13), .int (I 14), .int (I 15), .long W, .int (I 17), .int (I 18), .int (I 19), .int (I 20), .ref (b 10), .ref (b 11), .ref (b 12), .ref (b 13), .ref (b 14), .ref (b 15), .int (nI q), .int (nI mm), .ref (b 16), .ref (b 17), .ref (b 18), .ref (b 19), .ref (b 20), .ref (b 21), .int (I 35), .int (I 36), .int (I 37), .ref (b 22), .int (nI bd), .int (I 40), .int (I 41), .ref (b 23), .int (nI 99), .ref (b 24)])), (b 24, .inl (g 0, 2, .inl (mvF kp 0 (upd (upd a_single 0 (nI n)) 1 (I 10)) a_keptRow 2))), (b 1, .inl (g 0, 32, .inl (mvF kp 2 a_child (mvK kp 0 (upd (upd a_single 0 (nI n)) 1 (I 10)) a_keptRow 2) 32))), (b 2, .inl (g 0, 50, .inl (mvF kp 34 a_row (mvK kp 2 a_child (mvK kp 0 (upd (upd a_single 0 (nI n)) 1 (I 10)) a_keptRow 2) 32) 25))), (b 3, .inl (g 0, 40, .inl (mvF kp 59 a_events (mvK kp 34 a_row (mvK kp 2 a_child (mvK kp 0 (upd (upd a_single 0 (nI n)) 1 (I 10)) a_keptRow 2) 32) 25) 40))), (b 4, .inl (g 0, 40, .inl a_crosses)), (b 5, .inl (g 0, 40, .inl a_truth)), (b 6, .inl (g 0, 4, .inl a_laws)), (b 23, .inl (g 0, 190, .inl (mvK kp 59 a_events (mvK kp 34 a_row (mvK kp 2 a_child (mvK kp 0 (upd (upd a_single 0 (nI n)) 1 (I 10)) a_keptRow 2) 32) 25) 40)))]) rfl ?_
  refine s_aload_n B dX9_moveAll_68 rfl 0 rfl ?_
  refine s_aload_n B dX9_moveAll_69 rfl 0 rfl ?_
  refine s_get (T := TX9) B inX9 0 rfl rfl 5 (Nat.le_of_ble_eq_true rfl) fl_X9_19 rfl rfl dX9_moveAll_70 ?_
  refine s_bipush B dX9_moveAll_73 bp_40 ?_
  refine s_iload_n B dX9_moveAll_75 rfl 1 rfl ?_
  refine s_callVv B hsc (c_X9_moveRow l D g b I W n p0 t q mm bd 99 (mvK kp 59 a_events (mvK kp 34 a_row (mvK kp 2 a_child (mvK kp 0 (upd (upd a_single 0 (nI n)) 1 (I 10)) a_keptRow 2) 32) 25) 40) (b 4) 40 40 a_crosses kp (by decide) (by decide) (by decide)) (gw_V ml_X9_331 im_yX9_moveRow se_yX9_moveRow ini_RX9 co_yX9_moveRow) hd_X9_moveRow rfl rfl ⟨(Nat.le_of_ble_eq_true rfl), (Nat.le_of_ble_eq_true rfl)⟩ [0, 8, 5] [0, 1, 2, 3, 4] rfl rfl rfl (ci := 9) (q0 := 0) rfl rfl rfl rfl rfl (Nat.le_of_ble_eq_true rfl) dX9_moveAll_76 (fun u_5 hpo => ?_)
  subst hpo
  refine s_ws (ws' := [(b 0, .inr (9, [.int (nI n), .ref (b 1), .ref (b 2), .int (nI p0), .ref (b 3), .ref (b 4), .ref (b 5), .ref (b 6), .ref (b 7), .ref (b 8), .int (I 10), .ref (b 9), .int (nI t), .int (I 13), .int (I 14), .int (I 15), .long W, .int (I 17), .int (I 18), .int (I 19), .int (I 20), .ref (b 10), .ref (b 11), .ref (b 12), .ref (b 13), .ref (b 14), .ref (b 15), .int (nI q), .int (nI mm), .ref (b 16), .ref (b 17), .ref (b 18), .ref (b 19), .ref (b 20), .ref (b 21), .int (I 35), .int (I 36), .int (I 37), .ref (b 22), .int (nI bd), .int (I 40), .int (I 41), .ref (b 23), .int (nI 139), .ref (b 24)])), (b 24, .inl (g 0, 2, .inl (mvF kp 0 (upd (upd a_single 0 (nI n)) 1 (I 10)) a_keptRow 2))), (b 1, .inl (g 0, 32, .inl (mvF kp 2 a_child (mvK kp 0 (upd (upd a_single 0 (nI n)) 1 (I 10)) a_keptRow 2) 32))), (b 2, .inl (g 0, 50, .inl (mvF kp 34 a_row (mvK kp 2 a_child (mvK kp 0 (upd (upd a_single 0 (nI n)) 1 (I 10)) a_keptRow 2) 32) 25))), (b 3, .inl (g 0, 40, .inl (mvF kp 59 a_events (mvK kp 34 a_row (mvK kp 2 a_child (mvK kp 0 (upd (upd a_single 0 (nI n)) 1 (I 10)) a_keptRow 2) 32) 25) 40))), (b 4, .inl (g 0, 40, .inl (mvF kp 99 a_crosses (mvK kp 59 a_events (mvK kp 34 a_row (mvK kp 2 a_child (mvK kp 0 (upd (upd a_single 0 (nI n)) 1 (I 10)) a_keptRow 2) 32) 25) 40) 40))), (b 5, .inl (g 0, 40, .inl a_truth)), (b 6, .inl (g 0, 4, .inl a_laws)), (b 23, .inl (g 0, 190, .inl (mvK kp 99 a_crosses (mvK kp 59 a_events (mvK kp 34 a_row (mvK kp 2 a_child (mvK kp 0 (upd (upd a_single 0 (nI n)) 1 (I 10)) a_keptRow 2) 32) 25) 40) 40)))]) rfl ?_
  refine s_aload_n B dX9_moveAll_79 rfl 0 rfl ?_
  refine s_aload_n B dX9_moveAll_80 rfl 0 rfl ?_
  refine s_get (T := TX9) B inX9 0 rfl rfl 6 (Nat.le_of_ble_eq_true rfl) fl_X9_22 rfl rfl dX9_moveAll_81 ?_
  refine s_bipush B dX9_moveAll_84 bp_40 ?_
  refine s_iload_n B dX9_moveAll_86 rfl 1 rfl ?_
  refine s_callVv B hsc (c_X9_moveRow l D g b I W n p0 t q mm bd 139 (mvK kp 99 a_crosses (mvK kp 59 a_events (mvK kp 34 a_row (mvK kp 2 a_child (mvK kp 0 (upd (upd a_single 0 (nI n)) 1 (I 10)) a_keptRow 2) 32) 25) 40) 40) (b 5) 40 40 a_truth kp (by decide) (by decide) (by decide)) (gw_V ml_X9_331 im_yX9_moveRow se_yX9_moveRow ini_RX9 co_yX9_moveRow) hd_X9_moveRow rfl rfl ⟨(Nat.le_of_ble_eq_true rfl), (Nat.le_of_ble_eq_true rfl)⟩ [0, 8, 6] [0, 1, 2, 3, 4] rfl rfl rfl (ci := 9) (q0 := 0) rfl rfl rfl rfl rfl (Nat.le_of_ble_eq_true rfl) dX9_moveAll_87 (fun u_6 hpo => ?_)
  subst hpo
  refine s_ws (ws' := [(b 0, .inr (9, [.int (nI n), .ref (b 1), .ref (b 2), .int (nI p0), .ref (b 3), .ref (b 4), .ref (b 5), .ref (b 6), .ref (b 7), .ref (b 8), .int (I 10), .ref (b 9), .int (nI t), .int (I 13), .int (I 14), .int (I 15), .long W, .int (I 17), .int (I 18), .int (I 19), .int (I 20), .ref (b 10), .ref (b 11), .ref (b 12), .ref (b 13), .ref (b 14), .ref (b 15), .int (nI q), .int (nI mm), .ref (b 16), .ref (b 17), .ref (b 18), .ref (b 19), .ref (b 20), .ref (b 21), .int (I 35), .int (I 36), .int (I 37), .ref (b 22), .int (nI bd), .int (I 40), .int (I 41), .ref (b 23), .int (nI 179), .ref (b 24)])), (b 24, .inl (g 0, 2, .inl (mvF kp 0 (upd (upd a_single 0 (nI n)) 1 (I 10)) a_keptRow 2))), (b 1, .inl (g 0, 32, .inl (mvF kp 2 a_child (mvK kp 0 (upd (upd a_single 0 (nI n)) 1 (I 10)) a_keptRow 2) 32))), (b 2, .inl (g 0, 50, .inl (mvF kp 34 a_row (mvK kp 2 a_child (mvK kp 0 (upd (upd a_single 0 (nI n)) 1 (I 10)) a_keptRow 2) 32) 25))), (b 3, .inl (g 0, 40, .inl (mvF kp 59 a_events (mvK kp 34 a_row (mvK kp 2 a_child (mvK kp 0 (upd (upd a_single 0 (nI n)) 1 (I 10)) a_keptRow 2) 32) 25) 40))), (b 4, .inl (g 0, 40, .inl (mvF kp 99 a_crosses (mvK kp 59 a_events (mvK kp 34 a_row (mvK kp 2 a_child (mvK kp 0 (upd (upd a_single 0 (nI n)) 1 (I 10)) a_keptRow 2) 32) 25) 40) 40))), (b 5, .inl (g 0, 40, .inl (mvF kp 139 a_truth (mvK kp 99 a_crosses (mvK kp 59 a_events (mvK kp 34 a_row (mvK kp 2 a_child (mvK kp 0 (upd (upd a_single 0 (nI n)) 1 (I 10)) a_keptRow 2) 32) 25) 40) 40) 40))), (b 6, .inl (g 0, 4, .inl a_laws)), (b 23, .inl (g 0, 190, .inl (mvK kp 139 a_truth (mvK kp 99 a_crosses (mvK kp 59 a_events (mvK kp 34 a_row (mvK kp 2 a_child (mvK kp 0 (upd (upd a_single 0 (nI n)) 1 (I 10)) a_keptRow 2) 32) 25) 40) 40) 40)))]) rfl ?_
  refine s_aload_n B dX9_moveAll_90 rfl 0 rfl ?_
  refine s_aload_n B dX9_moveAll_91 rfl 0 rfl ?_
  refine s_get (T := TX9) B inX9 0 rfl rfl 7 (Nat.le_of_ble_eq_true rfl) fl_X9_25 rfl rfl dX9_moveAll_92 ?_
  refine s_iconst B dX9_moveAll_95 ic_4 ?_
  refine s_iload_n B dX9_moveAll_96 rfl 1 rfl ?_
  refine s_callVv B hsc (c_X9_moveRow l D g b I W n p0 t q mm bd 179 (mvK kp 139 a_truth (mvK kp 99 a_crosses (mvK kp 59 a_events (mvK kp 34 a_row (mvK kp 2 a_child (mvK kp 0 (upd (upd a_single 0 (nI n)) 1 (I 10)) a_keptRow 2) 32) 25) 40) 40) 40) (b 6) 4 4 a_laws kp (by decide) (by decide) (by decide)) (gw_V ml_X9_331 im_yX9_moveRow se_yX9_moveRow ini_RX9 co_yX9_moveRow) hd_X9_moveRow rfl rfl ⟨(Nat.le_of_ble_eq_true rfl), (Nat.le_of_ble_eq_true rfl)⟩ [0, 8, 7] [0, 1, 2, 3, 4] rfl rfl rfl (ci := 9) (q0 := 0) rfl rfl rfl rfl rfl (Nat.le_of_ble_eq_true rfl) dX9_moveAll_97 (fun u_7 hpo => ?_)
  subst hpo
  refine s_ws (ws' := [(b 0, .inr (9, [.int (nI n), .ref (b 1), .ref (b 2), .int (nI p0), .ref (b 3), .ref (b 4), .ref (b 5), .ref (b 6), .ref (b 7), .ref (b 8), .int (I 10), .ref (b 9), .int (nI t), .int (I 13), .int (I 14), .int (I 15), .long W, .int (I 17), .int (I 18), .int (I 19), .int (I 20), .ref (b 10), .ref (b 11), .ref (b 12), .ref (b 13), .ref (b 14), .ref (b 15), .int (nI q), .int (nI mm), .ref (b 16), .ref (b 17), .ref (b 18), .ref (b 19), .ref (b 20), .ref (b 21), .int (I 35), .int (I 36), .int (I 37), .ref (b 22), .int (nI bd), .int (I 40), .int (I 41), .ref (b 23), .int (nI 183), .ref (b 24)])), (b 24, .inl (g 0, 2, .inl (mvF kp 0 (upd (upd a_single 0 (nI n)) 1 (I 10)) a_keptRow 2))), (b 1, .inl (g 0, 32, .inl (mvF kp 2 a_child (mvK kp 0 (upd (upd a_single 0 (nI n)) 1 (I 10)) a_keptRow 2) 32))), (b 2, .inl (g 0, 50, .inl (mvF kp 34 a_row (mvK kp 2 a_child (mvK kp 0 (upd (upd a_single 0 (nI n)) 1 (I 10)) a_keptRow 2) 32) 25))), (b 3, .inl (g 0, 40, .inl (mvF kp 59 a_events (mvK kp 34 a_row (mvK kp 2 a_child (mvK kp 0 (upd (upd a_single 0 (nI n)) 1 (I 10)) a_keptRow 2) 32) 25) 40))), (b 4, .inl (g 0, 40, .inl (mvF kp 99 a_crosses (mvK kp 59 a_events (mvK kp 34 a_row (mvK kp 2 a_child (mvK kp 0 (upd (upd a_single 0 (nI n)) 1 (I 10)) a_keptRow 2) 32) 25) 40) 40))), (b 5, .inl (g 0, 40, .inl (mvF kp 139 a_truth (mvK kp 99 a_crosses (mvK kp 59 a_events (mvK kp 34 a_row (mvK kp 2 a_child (mvK kp 0 (upd (upd a_single 0 (nI n)) 1 (I 10)) a_keptRow 2) 32) 25) 40) 40) 40))), (b 6, .inl (g 0, 4, .inl (mvF kp 179 a_laws (mvK kp 139 a_truth (mvK kp 99 a_crosses (mvK kp 59 a_events (mvK kp 34 a_row (mvK kp 2 a_child (mvK kp 0 (upd (upd a_single 0 (nI n)) 1 (I 10)) a_keptRow 2) 32) 25) 40) 40) 40) 4))), (b 23, .inl (g 0, 190, .inl (mvK kp 179 a_laws (mvK kp 139 a_truth (mvK kp 99 a_crosses (mvK kp 59 a_events (mvK kp 34 a_row (mvK kp 2 a_child (mvK kp 0 (upd (upd a_single 0 (nI n)) 1 (I 10)) a_keptRow 2) 32) 25) 40) 40) 40) 4)))]) rfl ?_
  refine s_vret B hQ hr dX9_moveAll_100 rfl ?_
  exact ⟨(nI 183), (mvF kp 0 (upd (upd a_single 0 (nI n)) 1 (I 10)) a_keptRow 2), (mvF kp 2 a_child (mvK kp 0 (upd (upd a_single 0 (nI n)) 1 (I 10)) a_keptRow 2) 32), (mvF kp 34 a_row (mvK kp 2 a_child (mvK kp 0 (upd (upd a_single 0 (nI n)) 1 (I 10)) a_keptRow 2) 32) 25), (mvF kp 59 a_events (mvK kp 34 a_row (mvK kp 2 a_child (mvK kp 0 (upd (upd a_single 0 (nI n)) 1 (I 10)) a_keptRow 2) 32) 25) 40), (mvF kp 99 a_crosses (mvK kp 59 a_events (mvK kp 34 a_row (mvK kp 2 a_child (mvK kp 0 (upd (upd a_single 0 (nI n)) 1 (I 10)) a_keptRow 2) 32) 25) 40) 40), (mvF kp 139 a_truth (mvK kp 99 a_crosses (mvK kp 59 a_events (mvK kp 34 a_row (mvK kp 2 a_child (mvK kp 0 (upd (upd a_single 0 (nI n)) 1 (I 10)) a_keptRow 2) 32) 25) 40) 40) 40), (mvF kp 179 a_laws (mvK kp 139 a_truth (mvK kp 99 a_crosses (mvK kp 59 a_events (mvK kp 34 a_row (mvK kp 2 a_child (mvK kp 0 (upd (upd a_single 0 (nI n)) 1 (I 10)) a_keptRow 2) 32) 25) 40) 40) 40) 4), (mvK kp 179 a_laws (mvK kp 139 a_truth (mvK kp 99 a_crosses (mvK kp 59 a_events (mvK kp 34 a_row (mvK kp 2 a_child (mvK kp 0 (upd (upd a_single 0 (nI n)) 1 (I 10)) a_keptRow 2) 32) 25) 40) 40) 40) 4), mv_row ok_a_row (fun h => by rw [mvK_f h, mvK_f h]; exact hpre0 h), fun h => by simp [mvK, h, upd], fun h => ⟨by simp [mvF, h], by simp only [mvK_f h]⟩, fun h => by simp only [mvF_k h], fun h => by simp only [mvK_f h]; unfold mvF; rw [if_pos ⟨h, by decide⟩], (mvY_is (by rw [upd_ne _ _ (by decide), upd_is]) (by rw [upd_is])), mvN_is, rfl⟩
def rmX9_keep : Room := { frames := 2, cells := 0, slots := 0, locals := 45 }
theorem hd_X9_keep : yX9_keep.cls = RX9 ∧ yX9_keep.cls ≠ "java/lang/invoke/MethodHandle" ∧ yX9_keep.cls ≠ "java/lang/invoke/VarHandle" ∧ (parseMethodDescriptor yX9_keep.desc).map (fun d => d.parameters.length) = some 0 := by decide +kernel
set_option maxHeartbeats 4000000 in
set_option maxRecDepth 100000 in
theorem c_X9_keep (l : Launch) (D : va_G) (g : Nat → ClassId) (b : Nat → Nat) (I : Nat → Int32) (W : Int64) (n p0 t q mm bd : Nat) (a_single : Nat → Int32) (a_child : Nat → Int32) (a_row : Nat → Int32) (a_events : Nat → Int32) (a_crosses : Nat → Int32) (a_truth : Nat → Int32) (a_laws : Nat → Int32) (a_keptRow : Nat → Int32) (hn : n ≤ 8) (hp : p0 = 0 ∨ p0 = 25) (ht : t ≤ 240) (hq0 : q ≤ 20) (hmm : mm ≤ 20) (hbd : bd ≤ 30) (ok_a_row : RowOk a_row) : Ci l yX9_keep (WW yX9_keep cX9_keep 1 (some FieldType.int)) rmX9_keep D vwCl (TY g) [.ref (b 0)] [(b 0, .inr (9, [.int (nI n), .ref (b 1), .ref (b 2), .int (nI 0), .ref (b 3), .ref (b 4), .ref (b 5), .ref (b 6), .ref (b 7), .ref (b 8), .int (I 10), .ref (b 9), .int (nI t), .int (I 13), .int (I 14), .int (I 15), .long W, .int (I 17), .int (I 18), .int (I 19), .int (I 20), .ref (b 10), .ref (b 11), .ref (b 12), .ref (b 13), .ref (b 14), .ref (b 15), .int (nI q), .int (nI mm), .ref (b 16), .ref (b 17), .ref (b 18), .ref (b 19), .ref (b 20), .ref (b 21), .int (I 35), .int (I 36), .int (I 37), .ref (b 22), .int (nI bd), .int (I 40), .int (I 41), .ref (b 23), .int (I 43), .ref (b 24)])), (b 24, .inl (g 0, 2, .inl a_single)), (b 1, .inl (g 0, 32, .inl a_child)), (b 2, .inl (g 0, 50, .inl a_row)), (b 3, .inl (g 0, 40, .inl a_events)), (b 4, .inl (g 0, 40, .inl a_crosses)), (b 5, .inl (g 0, 40, .inl a_truth)), (b 6, .inl (g 0, 4, .inl a_laws)), (b 23, .inl (g 0, 190, .inl a_keptRow))] (fun r u => ∃ (movedTo' : Int32) (a_single' : Nat → Int32) (a_child' : Nat → Int32) (a_row' : Nat → Int32) (a_events' : Nat → Int32) (a_crosses' : Nat → Int32) (a_truth' : Nat → Int32) (a_laws' : Nat → Int32) (a_keptRow' : Nat → Int32), r = 1 ∧ (RowOk a_row') ∧ (KeptOk 1 a_keptRow') ∧ (a_keptRow' 0 = nI n ∧ a_keptRow' 34 = a_row 0 ∧ a_row' = a_row) ∧ (∀ G : MG, RG G n a_child a_row a_events a_crosses a_truth a_laws (I 10) → RG G n a_child' a_row' a_events' a_crosses' a_truth' a_laws' (I 10) ∧ RK G a_keptRow') ∧ u = [(b 0, .inr (9, [.int (nI n), .ref (b 1), .ref (b 2), .int (nI 0), .ref (b 3), .ref (b 4), .ref (b 5), .ref (b 6), .ref (b 7), .ref (b 8), .int (I 10), .ref (b 9), .int (nI t), .int (I 13), .int (I 14), .int (I 15), .long W, .int (I 17), .int (I 18), .int (I 19), .int (I 20), .ref (b 10), .ref (b 11), .ref (b 12), .ref (b 13), .ref (b 14), .ref (b 15), .int (nI q), .int (nI mm), .ref (b 16), .ref (b 17), .ref (b 18), .ref (b 19), .ref (b 20), .ref (b 21), .int (I 35), .int (I 36), .int (I 37), .ref (b 22), .int (nI bd), .int (I 40), .int 1, .ref (b 23), .int movedTo', .ref (b 24)])), (b 24, .inl (g 0, 2, .inl a_single')), (b 1, .inl (g 0, 32, .inl a_child')), (b 2, .inl (g 0, 50, .inl a_row')), (b 3, .inl (g 0, 40, .inl a_events')), (b 4, .inl (g 0, 40, .inl a_crosses')), (b 5, .inl (g 0, 40, .inl a_truth')), (b 6, .inl (g 0, 4, .inl a_laws')), (b 23, .inl (g 0, 190, .inl a_keptRow'))]) := by
  refine ci_in (by decide) (Nat.le_of_ble_eq_true rfl) (a0 := [b 0, b 24, b 1, b 2, b 3, b 4, b 5, b 6, b 23]) rfl (fun p e s m args below meth c A Q hQ B hr hsc => ?_)
  refine s_aload_n B dX9_keep_0 rfl 0 rfl ?_
  refine s_iconst B dX9_keep_1 ic_1 ?_
  refine s_callVv B hsc (c_X9_moveAll l D g b I W n 0 t q mm bd a_single a_child a_row a_events a_crosses a_truth a_laws a_keptRow 1 (by omega) (by omega) (by omega) (by omega) (by omega) (by omega) ok_a_row (by first | assumption | decide | (intro h9; first | assumption | exact absurd h9 (by decide)) | omega | rfl | (refine ⟨_, ?_, by assumption⟩; omega) | (clear hQ B hr hsc; grind))) (gw_V ml_X9_335 im_yX9_moveAll se_yX9_moveAll ini_RX9 co_yX9_moveAll) hd_X9_moveAll rfl rfl ⟨(Nat.le_of_ble_eq_true rfl), (Nat.le_of_ble_eq_true rfl)⟩ [0, 1, 2, 3, 4, 5, 6, 7, 8] [0, 1, 2, 3, 4] rfl rfl rfl (ci := 9) (q0 := 0) rfl rfl rfl rfl rfl (Nat.le_of_ble_eq_true rfl) dX9_keep_2 (fun u_2 hpo => ?_)
  obtain ⟨v_3, a_single_4, a_child_5, a_row_6, a_events_7, a_crosses_8, a_truth_9, a_laws_10, a_keptRow_11, ok_a_row_6, hf_12, hf_13, hf_14, hf_15, hf_16, hf_17, rfl⟩ := hpo
  refine s_ws (ws' := [(b 0, .inr (9, [.int (nI n), .ref (b 1), .ref (b 2), .int (nI 0), .ref (b 3), .ref (b 4), .ref (b 5), .ref (b 6), .ref (b 7), .ref (b 8), .int (I 10), .ref (b 9), .int (nI t), .int (I 13), .int (I 14), .int (I 15), .long W, .int (I 17), .int (I 18), .int (I 19), .int (I 20), .ref (b 10), .ref (b 11), .ref (b 12), .ref (b 13), .ref (b 14), .ref (b 15), .int (nI q), .int (nI mm), .ref (b 16), .ref (b 17), .ref (b 18), .ref (b 19), .ref (b 20), .ref (b 21), .int (I 35), .int (I 36), .int (I 37), .ref (b 22), .int (nI bd), .int (I 40), .int (I 41), .ref (b 23), .int v_3, .ref (b 24)])), (b 24, .inl (g 0, 2, .inl a_single_4)), (b 1, .inl (g 0, 32, .inl a_child_5)), (b 2, .inl (g 0, 50, .inl a_row_6)), (b 3, .inl (g 0, 40, .inl a_events_7)), (b 4, .inl (g 0, 40, .inl a_crosses_8)), (b 5, .inl (g 0, 40, .inl a_truth_9)), (b 6, .inl (g 0, 4, .inl a_laws_10)), (b 23, .inl (g 0, 190, .inl a_keptRow_11))]) rfl ?_
  refine s_aload_n B dX9_keep_5 rfl 0 rfl ?_
  refine s_iconst B dX9_keep_6 ic_1 ?_
  refine s_put (T := TX9) (ws' := [_, _, _, _, _, _, _, _, _]) B inX9 tyX9_ok nmX9 0 rfl rfl 41 (Nat.le_of_ble_eq_true rfl) fl_X9_339 rfl rfl (by first | rfl | decide) rfl (Nat.le_of_ble_eq_true rfl) rfl dX9_keep_7 ?_
  refine s_iconst B dX9_keep_10 ic_1 ?_
  refine s_iret B hQ hr dX9_keep_11 rfl ?_
  exact ⟨v_3, a_single_4, a_child_5, a_row_6, a_events_7, a_crosses_8, a_truth_9, a_laws_10, a_keptRow_11, rfl, ok_a_row_6, Or.inr ⟨⟨n, by omega, (hf_12 (by decide)).1⟩, (hf_12 (by decide)).2.symm ▸ RowOk.at ok_a_row (by omega)⟩, ⟨(hf_12 (by decide)).1, (hf_12 (by decide)).2, hf_14 (by decide)⟩, (fun G H => hf_16.keep H), rfl⟩
def rmX9_again : Room := { frames := 2, cells := 0, slots := 0, locals := 45 }
theorem hd_X9_again : yX9_again.cls = RX9 ∧ yX9_again.cls ≠ "java/lang/invoke/MethodHandle" ∧ yX9_again.cls ≠ "java/lang/invoke/VarHandle" ∧ (parseMethodDescriptor yX9_again.desc).map (fun d => d.parameters.length) = some 0 := by decide +kernel
set_option maxHeartbeats 4000000 in
set_option maxRecDepth 100000 in
theorem c_X9_again (l : Launch) (D : va_G) (g : Nat → ClassId) (b : Nat → Nat) (I : Nat → Int32) (W : Int64) (n p0 t q mm bd : Nat) (ik : Int32) (a_single : Nat → Int32) (a_child : Nat → Int32) (a_row : Nat → Int32) (a_events : Nat → Int32) (a_crosses : Nat → Int32) (a_truth : Nat → Int32) (a_laws : Nat → Int32) (a_keptRow : Nat → Int32) (hn : n ≤ 8) (hp : p0 = 0 ∨ p0 = 25) (ht : t ≤ 240) (hq0 : q ≤ 20) (hmm : mm ≤ 20) (hbd : bd ≤ 30) (ok_a_row : RowOk a_row) (hpre0 : KeptOk ik a_keptRow) : Ci l yX9_again (WW yX9_again cX9_again 1 (some FieldType.int)) rmX9_again D vwCl (TY g) [.ref (b 0)] [(b 0, .inr (9, [.int (nI n), .ref (b 1), .ref (b 2), .int (nI 0), .ref (b 3), .ref (b 4), .ref (b 5), .ref (b 6), .ref (b 7), .ref (b 8), .int (I 10), .ref (b 9), .int (nI t), .int (I 13), .int (I 14), .int (I 15), .long W, .int (I 17), .int (I 18), .int (I 19), .int (I 20), .ref (b 10), .ref (b 11), .ref (b 12), .ref (b 13), .ref (b 14), .ref (b 15), .int (nI q), .int (nI mm), .ref (b 16), .ref (b 17), .ref (b 18), .ref (b 19), .ref (b 20), .ref (b 21), .int (I 35), .int (I 36), .int (I 37), .ref (b 22), .int (nI bd), .int (I 40), .int ik, .ref (b 23), .int (I 43), .ref (b 24)])), (b 24, .inl (g 0, 2, .inl a_single)), (b 1, .inl (g 0, 32, .inl a_child)), (b 2, .inl (g 0, 50, .inl a_row)), (b 3, .inl (g 0, 40, .inl a_events)), (b 4, .inl (g 0, 40, .inl a_crosses)), (b 5, .inl (g 0, 40, .inl a_truth)), (b 6, .inl (g 0, 4, .inl a_laws)), (b 23, .inl (g 0, 190, .inl a_keptRow))] (fun r u => ∃ (n' : Nat) (z' : Int32) (movedTo' : Int32) (a_single' : Nat → Int32) (a_child' : Nat → Int32) (a_row' : Nat → Int32) (a_events' : Nat → Int32) (a_crosses' : Nat → Int32) (a_truth' : Nat → Int32) (a_laws' : Nat → Int32) (a_keptRow' : Nat → Int32), (n' ≤ 8) ∧ (RowOk a_row') ∧ (KeptOk ik a_keptRow') ∧ (ik = 0 → n' = n ∧ a_row' 0 = a_row 0 ∧ r = -3 ∧ a_keptRow' = a_keptRow) ∧ (¬ ik = 0 → a_keptRow 0 = nI n' ∧ a_row' 0 = a_keptRow 34 ∧ r = a_row' 0 ∧ a_keptRow' = a_keptRow) ∧ (∀ G K : MG, RG G n a_child a_row a_events a_crosses a_truth a_laws (I 10) → (¬ ik = 0 → RK K a_keptRow) → RG (gAgain ik K G) n' a_child' a_row' a_events' a_crosses' a_truth' a_laws' z' ∧ r = aAgain ik K ∧ a_keptRow' = a_keptRow) ∧ u = [(b 0, .inr (9, [.int (nI n'), .ref (b 1), .ref (b 2), .int (nI 0), .ref (b 3), .ref (b 4), .ref (b 5), .ref (b 6), .ref (b 7), .ref (b 8), .int z', .ref (b 9), .int (nI t), .int (I 13), .int (I 14), .int (I 15), .long W, .int (I 17), .int (I 18), .int (I 19), .int (I 20), .ref (b 10), .ref (b 11), .ref (b 12), .ref (b 13), .ref (b 14), .ref (b 15), .int (nI q), .int (nI mm), .ref (b 16), .ref (b 17), .ref (b 18), .ref (b 19), .ref (b 20), .ref (b 21), .int (I 35), .int (I 36), .int (I 37), .ref (b 22), .int (nI bd), .int (I 40), .int ik, .ref (b 23), .int movedTo', .ref (b 24)])), (b 24, .inl (g 0, 2, .inl a_single')), (b 1, .inl (g 0, 32, .inl a_child')), (b 2, .inl (g 0, 50, .inl a_row')), (b 3, .inl (g 0, 40, .inl a_events')), (b 4, .inl (g 0, 40, .inl a_crosses')), (b 5, .inl (g 0, 40, .inl a_truth')), (b 6, .inl (g 0, 4, .inl a_laws')), (b 23, .inl (g 0, 190, .inl a_keptRow'))]) := by
  refine ci_in (by decide) (Nat.le_of_ble_eq_true rfl) (a0 := [b 0, b 24, b 1, b 2, b 3, b 4, b 5, b 6, b 23]) rfl (fun p e s m args below meth c A Q hQ B hr hsc => ?_)
  refine s_aload_n B dX9_again_0 rfl 0 rfl ?_
  refine s_get (T := TX9) B inX9 0 rfl rfl 41 (Nat.le_of_ble_eq_true rfl) fl_X9_339 rfl rfl dX9_again_1 ?_
  refine s_if_ne (tgt := 10) B dX9_again_4 rfl (fun h4 => ?_) (fun h4 => ?_)
  · refine s_aload_n B dX9_again_10 rfl 0 rfl ?_
    have hk34 : le40 (a_keptRow 34) := (hpre0.resolve_left h4).2
    refine s_iconst B dX9_again_11 ic_0 ?_
    refine s_callVv B hsc (c_X9_moveAll l D g b (upd I 41 ik) W n 0 t q mm bd a_single a_child a_row a_events a_crosses a_truth a_laws a_keptRow 0 (by omega) (by omega) (by omega) (by omega) (by omega) (by omega) ok_a_row (by first | assumption | decide | (intro h9; first | assumption | exact absurd h9 (by decide)) | omega | rfl | (refine ⟨_, ?_, by assumption⟩; omega) | (clear hQ B hr hsc; grind))) (gw_V ml_X9_335 im_yX9_moveAll se_yX9_moveAll ini_RX9 co_yX9_moveAll) hd_X9_moveAll rfl rfl ⟨(Nat.le_of_ble_eq_true rfl), (Nat.le_of_ble_eq_true rfl)⟩ [0, 1, 2, 3, 4, 5, 6, 7, 8] [0, 1, 2, 3, 4] rfl rfl rfl (ci := 9) (q0 := 0) rfl rfl rfl rfl rfl (Nat.le_of_ble_eq_true rfl) dX9_again_12 (fun u_2 hpo => ?_)
    obtain ⟨v_3, a_single_4, a_child_5, a_row_6, a_events_7, a_crosses_8, a_truth_9, a_laws_10, a_keptRow_11, ok_a_row_6, hf_12, hf_13, hf_14, hf_15, hf_16, hf_17, rfl⟩ := hpo
    refine s_ws (ws' := [(b 0, .inr (9, [.int (nI n), .ref (b 1), .ref (b 2), .int (nI 0), .ref (b 3), .ref (b 4), .ref (b 5), .ref (b 6), .ref (b 7), .ref (b 8), .int (I 10), .ref (b 9), .int (nI t), .int (I 13), .int (I 14), .int (I 15), .long W, .int (I 17), .int (I 18), .int (I 19), .int (I 20), .ref (b 10), .ref (b 11), .ref (b 12), .ref (b 13), .ref (b 14), .ref (b 15), .int (nI q), .int (nI mm), .ref (b 16), .ref (b 17), .ref (b 18), .ref (b 19), .ref (b 20), .ref (b 21), .int (I 35), .int (I 36), .int (I 37), .ref (b 22), .int (nI bd), .int (I 40), .int ik, .ref (b 23), .int v_3, .ref (b 24)])), (b 24, .inl (g 0, 2, .inl a_single_4)), (b 1, .inl (g 0, 32, .inl a_child_5)), (b 2, .inl (g 0, 50, .inl a_row_6)), (b 3, .inl (g 0, 40, .inl a_events_7)), (b 4, .inl (g 0, 40, .inl a_crosses_8)), (b 5, .inl (g 0, 40, .inl a_truth_9)), (b 6, .inl (g 0, 4, .inl a_laws_10)), (b 23, .inl (g 0, 190, .inl a_keptRow_11))]) rfl ?_
    refine s_aload_n B dX9_again_15 rfl 0 rfl ?_
    refine s_aload_n B dX9_again_16 rfl 0 rfl ?_
    refine s_get (T := TX9) B inX9 0 rfl rfl 44 (Nat.le_of_ble_eq_true rfl) fl_X9_84 rfl rfl dX9_again_17 ?_
    refine s_iconst B dX9_again_20 ic_0 ?_
    refine s_ialdN B 1 0 rfl rfl dX9_again_21 (by decide) (by decide) ?_
    obtain ⟨⟨mk, hmk, hmke⟩, hk34⟩ := hpre0.resolve_left h4
    refine s_st (st' := [.int (nI mk), .ref (b 0)]) (by rw [(hf_13 rfl).1, hmke]) ?_
    refine s_put (T := TX9) (ws' := [_, _, _, _, _, _, _, _, _]) B inX9 tyX9_ok nmX9 0 rfl rfl 0 (Nat.le_of_ble_eq_true rfl) fl_X9_91 rfl rfl rfl rfl (Nat.le_of_ble_eq_true rfl) rfl dX9_again_22 ?_
    refine s_aload_n B dX9_again_25 rfl 0 rfl ?_
    refine s_aload_n B dX9_again_26 rfl 0 rfl ?_
    refine s_get (T := TX9) B inX9 0 rfl rfl 44 (Nat.le_of_ble_eq_true rfl) fl_X9_84 rfl rfl dX9_again_27 ?_
    refine s_iconst B dX9_again_30 ic_1 ?_
    refine s_ialdN B 1 0 rfl rfl dX9_again_31 (by decide) (by decide) ?_
    refine s_put (T := TX9) (ws' := [_, _, _, _, _, _, _, _, _]) B inX9 tyX9_ok nmX9 0 rfl rfl 10 (Nat.le_of_ble_eq_true rfl) fl_X9_34 rfl rfl rfl rfl (Nat.le_of_ble_eq_true rfl) rfl dX9_again_32 ?_
    refine s_aload_n B dX9_again_35 rfl 0 rfl ?_
    refine s_get (T := TX9) B inX9 0 rfl rfl 2 (Nat.le_of_ble_eq_true rfl) fl_X9_13 rfl rfl dX9_again_36 ?_
    refine s_iconst B dX9_again_39 ic_0 ?_
    refine s_ialdN B 3 0 rfl rfl dX9_again_40 (by decide) (by decide) ?_
    obtain ⟨d_18, hd_19, hr__20⟩ : le40 (a_row_6 0) := RowOk.at ok_a_row_6 (by omega)
    refine s_st (st' := [.int (nI d_18)]) (by rw [hr__20]) ?_
    refine s_iret B hQ hr dX9_again_41 rfl ?_
    exact ⟨mk, (a_single_4 1), v_3, a_single_4, a_child_5, a_row_6, a_events_7, a_crosses_8, a_truth_9, a_laws_10, a_keptRow_11, by omega, ok_a_row_6, (hf_13 rfl).2 ▸ hpre0, (fun q => absurd q h4), (fun _ => ⟨hmke, hf_15 rfl, hr__20.symm, (hf_13 rfl).2⟩), (fun G K H hK => hf_17.again h4 hK hmke hmk hr__20), rfl⟩
  · refine s_bipush B dX9_again_7 bp_m3 ?_
    refine s_iret B hQ hr dX9_again_9 rfl ?_
    exact ⟨n, (I 10), (I 43), a_single, a_child, a_row, a_events, a_crosses, a_truth, a_laws, a_keptRow, by omega, ok_a_row, hpre0, (fun _ => ⟨rfl, rfl, rfl, rfl⟩), (fun q => absurd h4 q), (fun G K H _ => ⟨(RGag0 h4 H).1, (RGag0 (G := G) h4 H).2, rfl⟩), rfl⟩
def rmX9_feed : Room := { frames := 1, cells := 0, slots := 0, locals := 22 }
theorem hd_X9_feed : yX9_feed.cls = RX9 ∧ yX9_feed.cls ≠ "java/lang/invoke/MethodHandle" ∧ yX9_feed.cls ≠ "java/lang/invoke/VarHandle" ∧ (parseMethodDescriptor yX9_feed.desc).map (fun d => d.parameters.length) = some 2 := by decide +kernel
set_option maxHeartbeats 4000000 in
set_option maxRecDepth 100000 in
theorem c_X9_feed (l : Launch) (D : va_G) (g : Nat → ClassId) (b : Nat → Nat) (I : Nat → Int32) (W : Int64) (n p0 t q mm bd : Nat) (a_tape : Nat → Int32) (e0 : Int64) (n0 : Int32) (hn : n ≤ 8) (hp : p0 = 0 ∨ p0 = 25) (ht : t ≤ 240) (hq0 : q ≤ 20) (hmm : mm ≤ 20) (hbd : bd ≤ 30) : Ci l yX9_feed (WW yX9_feed cX9_feed 5 (some FieldType.int)) rmX9_feed D vwCl (TY g) [.ref (b 0), .long e0, .int n0] [(b 0, .inr (9, [.int (nI n), .ref (b 1), .ref (b 2), .int (nI p0), .ref (b 3), .ref (b 4), .ref (b 5), .ref (b 6), .ref (b 7), .ref (b 8), .int (I 10), .ref (b 9), .int (nI t), .int (I 13), .int (I 14), .int (I 15), .long W, .int (I 17), .int (I 18), .int (I 19), .int (I 20), .ref (b 10), .ref (b 11), .ref (b 12), .ref (b 13), .ref (b 14), .ref (b 15), .int (nI q), .int (nI mm), .ref (b 16), .ref (b 17), .ref (b 18), .ref (b 19), .ref (b 20), .ref (b 21), .int (I 35), .int (I 36), .int (I 37), .ref (b 22), .int (nI bd), .int (I 40), .int (I 41), .ref (b 23), .int (I 43), .ref (b 24)])), (b 9, .inl (g 0, 240, .inl a_tape))] (fun r u => ∃ (t' : Nat) (a_tape' : Nat → Int32), (t' ≤ 240) ∧ (r = mFeed t n0) ∧ (t' = mFeedT t n0) ∧ (a_tape' = mFeedB (bR e0) a_tape t n0) ∧ u = [(b 0, .inr (9, [.int (nI n), .ref (b 1), .ref (b 2), .int (nI p0), .ref (b 3), .ref (b 4), .ref (b 5), .ref (b 6), .ref (b 7), .ref (b 8), .int (I 10), .ref (b 9), .int (nI t'), .int (I 13), .int (I 14), .int (I 15), .long W, .int (I 17), .int (I 18), .int (I 19), .int (I 20), .ref (b 10), .ref (b 11), .ref (b 12), .ref (b 13), .ref (b 14), .ref (b 15), .int (nI q), .int (nI mm), .ref (b 16), .ref (b 17), .ref (b 18), .ref (b 19), .ref (b 20), .ref (b 21), .int (I 35), .int (I 36), .int (I 37), .ref (b 22), .int (nI bd), .int (I 40), .int (I 41), .ref (b 23), .int (I 43), .ref (b 24)])), (b 9, .inl (g 0, 240, .inl a_tape'))]) := by
  refine ci_in (by decide) (Nat.le_of_ble_eq_true rfl) (a0 := [b 0, b 9]) rfl (fun p e s m args below meth c A Q hQ B hr hsc => ?_)
  refine s_iload_n B dX9_feed_0 rfl 2 rfl ?_
  refine s_iconst B dX9_feed_1 ic_1 ?_
  refine s_bipush B dX9_feed_2 bp_8 ?_
  refine s_callSi B hsc (c_X9_in l D g n0 1 8) (gw_S ml_X9_87 sm_yX9_in ini_RX9 co_yX9_in) hd_X9_in rfl rfl ⟨(Nat.le_of_ble_eq_true rfl), (Nat.le_of_ble_eq_true rfl)⟩ [] [0, 1, 2, 3, 4] rfl rfl rfl rfl rfl (Nat.le_of_ble_eq_true rfl) dX9_feed_4 (fun r_1 u_2 hpo => ?_)
  obtain ⟨rfl, rfl⟩ := hpo
  refine s_st (st' := [.int (if ¬ n0 < 1 ∧ ¬ 8 < n0 then 1 else 0)]) rfl ?_
  refine s_ws (ws' := [(b 0, .inr (9, [.int (nI n), .ref (b 1), .ref (b 2), .int (nI p0), .ref (b 3), .ref (b 4), .ref (b 5), .ref (b 6), .ref (b 7), .ref (b 8), .int (I 10), .ref (b 9), .int (nI t), .int (I 13), .int (I 14), .int (I 15), .long W, .int (I 17), .int (I 18), .int (I 19), .int (I 20), .ref (b 10), .ref (b 11), .ref (b 12), .ref (b 13), .ref (b 14), .ref (b 15), .int (nI q), .int (nI mm), .ref (b 16), .ref (b 17), .ref (b 18), .ref (b 19), .ref (b 20), .ref (b 21), .int (I 35), .int (I 36), .int (I 37), .ref (b 22), .int (nI bd), .int (I 40), .int (I 41), .ref (b 23), .int (I 43), .ref (b 24)])), (b 9, .inl (g 0, 240, .inl a_tape))]) rfl ?_
  refine s_bif_ne (tgt := 12) B dX9_feed_7 rfl (fun h7 => ?_) (fun h7 => ?_)
  · obtain ⟨k_3, hk_4, rfl⟩ := nat_le1 (N := 8) h7.1 h7.2 (by decide)
    have L30 : ∀ (jj30 : Nat) (k_5 : Nat) (t_7 : Nat) (a_tape_9 : Nat → Int32), 8 - k_5 < jj30 → (¬ (nI k_3) < 1 ∧ ¬ 8 < (nI k_3)) → (1 ≤ k_3 ∧ k_3 ≤ 8) → ((t + k_3) ≤ 240) → (k_5 ≤ 8) → (t_7 ≤ 240) → (t_7 = t + k_5 ∧ k_5 ≤ k_3) → (a_tape_9 = mFd (bR e0) a_tape t k_5) → Sx p l e rmX9_feed s m args below meth c D vwCl A 5 Q 30 [(0, .ref (b 0)), (1, .long e0), (3, .int (nI k_3)), (4, .int (nI k_5))] [] [(b 0, .inr (9, [.int (nI n), .ref (b 1), .ref (b 2), .int (nI p0), .ref (b 3), .ref (b 4), .ref (b 5), .ref (b 6), .ref (b 7), .ref (b 8), .int (I 10), .ref (b 9), .int (nI t_7), .int (I 13), .int (I 14), .int (I 15), .long W, .int (I 17), .int (I 18), .int (I 19), .int (I 20), .ref (b 10), .ref (b 11), .ref (b 12), .ref (b 13), .ref (b 14), .ref (b 15), .int (nI q), .int (nI mm), .ref (b 16), .ref (b 17), .ref (b 18), .ref (b 19), .ref (b 20), .ref (b 21), .int (I 35), .int (I 36), .int (I 37), .ref (b 22), .int (nI bd), .int (I 40), .int (I 41), .ref (b 23), .int (I 43), .ref (b 24)])), (b 9, .inl (g 0, 240, .inl a_tape_9))] := by
      intro jj30
      induction jj30 with
      | zero => intro k_5 t_7 a_tape_9 hj; exact absurd hj (Nat.not_lt_zero _)
      | succ jj30 ih30 =>
        intro k_5 t_7 a_tape_9 hj30 h7 hk_4 h21 h_6 h_8 hj_10 hX_11
        refine s_iload B dX9_feed_30 3 rfl ?_
        refine s_iload_n B dX9_feed_32 rfl 2 rfl ?_
        refine s_icmp_ge (tgt := 73) B dX9_feed_33 rfl (fun h33 => ?_) (fun h33 => ?_)
        · replace h33 : k_3 ≤ k_5 := (nI_leI (a := k_3) (b := k_5) (by omega) (by omega)).mp h33
          refine s_aload_n B dX9_feed_73 rfl 0 rfl ?_
          refine s_get (T := TX9) B inX9 0 rfl rfl 12 (Nat.le_of_ble_eq_true rfl) fl_X9_94 rfl rfl dX9_feed_74 ?_
          refine s_iret B hQ hr dX9_feed_77 rfl ?_
          exact ⟨t_7, a_tape_9, by omega, by have ekk : t_7 = t + k_3 := (by omega); subst ekk; clear hQ B hr hsc; have ec : (nI k_3).toNatClampNeg = k_3 := nI_clamp (by omega); grind [mFeed, mFeedT], by have ekk : t_7 = t + k_3 := (by omega); subst ekk; clear hQ B hr hsc; have ec : (nI k_3).toNatClampNeg = k_3 := nI_clamp (by omega); grind [mFeed, mFeedT], (by have ec : (nI k_3).toNatClampNeg = k_3 := nI_clamp (by omega); have en : k_5 = k_3 := (by omega); unfold mFeedB; rw [ec, if_neg (by clear hQ B hr hsc; grind), hX_11, en]), rfl⟩
        · replace h33 : ¬ k_3 ≤ k_5 := fun hh => h33 ((nI_leI (a := k_3) (b := k_5) (by omega) (by omega)).mpr hh)
          refine s_aload_n B dX9_feed_36 rfl 0 rfl ?_
          refine s_get (T := TX9) B inX9 0 rfl rfl 11 (Nat.le_of_ble_eq_true rfl) fl_X9_38 rfl rfl dX9_feed_37 ?_
          refine s_aload_n B dX9_feed_40 rfl 0 rfl ?_
          refine s_get (T := TX9) B inX9 0 rfl rfl 12 (Nat.le_of_ble_eq_true rfl) fl_X9_94 rfl rfl dX9_feed_41 ?_
          refine s_lload_n B dX9_feed_44 rfl 1 rfl ?_
          refine s_bipush B dX9_feed_45 bp_8 ?_
          refine s_iload B dX9_feed_47 3 rfl ?_
          refine s_imulE B dX9_feed_49 (pk_mul 8 k_5) ?_
          refine s_lshr B dX9_feed_50 rfl ?_
          refine s_ldc2 B cn_X9_97 dX9_feed_51 ?_
          refine s_land B dX9_feed_54 ?_
          refine s_l2i B dX9_feed_55 rfl ?_
          refine s_iastN (ws' := [_, _]) B 1 0 rfl rfl rfl dX9_feed_56 (by omega) (by decide) ?_
          refine s_aload_n B dX9_feed_57 rfl 0 rfl ?_
          refine s_dup B dX9_feed_58 rfl ?_
          refine s_get (T := TX9) B inX9 0 rfl rfl 12 (Nat.le_of_ble_eq_true rfl) fl_X9_94 rfl rfl dX9_feed_59 ?_
          refine s_iconst B dX9_feed_62 ic_1 ?_
          refine s_iaddE B dX9_feed_63 (nI_add t_7 1) ?_
          refine s_put (T := TX9) (ws' := [_, _]) B inX9 tyX9_ok nmX9 0 rfl rfl 12 (Nat.le_of_ble_eq_true rfl) fl_X9_94 rfl rfl rfl rfl (Nat.le_of_ble_eq_true rfl) rfl dX9_feed_64 ?_
          refine s_iinc (lv' := [(4, _), (0, _), (1, _), (3, _)]) (k := 3) B dX9_feed_67 rfl (ii_n _) (Nat.le_of_ble_eq_true rfl) rfl ?_
          refine s_goto (tgt := 30) B dX9_feed_70 rfl ?_
          refine s_lv (lv' := [(0, _), (1, _), (3, _), (4, _)]) [1, 2, 3, 0] rfl ?_
          exact ih30 (k_5 + 1) (t_7 + 1) (upd a_tape_9 t_7 (((e0 >>> ((nI (8 * k_5)).toInt64 &&& 63)) &&& 255).toInt32)) (by omega) h7 hk_4 h21 (by omega) (by omega) (by omega) (by first | exact mFd_0 _ _ _ | exact mFd_u (by assumption) (by omega) rfl)
    refine s_aload_n B dX9_feed_12 rfl 0 rfl ?_
    refine s_get (T := TX9) B inX9 0 rfl rfl 12 (Nat.le_of_ble_eq_true rfl) fl_X9_94 rfl rfl dX9_feed_13 ?_
    refine s_iload_n B dX9_feed_16 rfl 2 rfl ?_
    refine s_iaddE B dX9_feed_17 (nI_add t k_3) ?_
    refine s_sipush B dX9_feed_18 sp_240 ?_
    refine s_icmp_le (tgt := 27) B dX9_feed_21 rfl (fun h21 => ?_) (fun h21 => ?_)
    · replace h21 : (t + k_3) ≤ 240 := (nI_leI (a := (t + k_3)) (b := 240) (by omega) (by omega)).mp h21
      refine s_iconst B dX9_feed_27 ic_0 ?_
      refine s_istore (lv' := [(4, _), (0, _), (1, _), (3, _)]) B dX9_feed_28 (Nat.le_of_ble_eq_true rfl) rfl ?_
      refine s_lv (lv' := [(0, _), (1, _), (3, _), (4, _)]) [1, 2, 3, 0] rfl ?_
      refine s_lve (lv' := [(0, .ref (b 0)), (1, .long e0), (3, .int (nI k_3)), (4, .int (nI 0))]) (by first | rfl | (simp only [if_pos, if_neg]; done)) ?_
      exact L30 _ 0 t a_tape (Nat.lt_succ_self _) h7 hk_4 h21 (by omega) (by omega) (by omega) (by first | exact mFd_0 _ _ _ | exact mFd_u (by assumption) (by omega) rfl)
    · replace h21 : ¬ (t + k_3) ≤ 240 := fun hh => h21 ((nI_leI (a := (t + k_3)) (b := 240) (by omega) (by omega)).mpr hh)
      refine s_bipush B dX9_feed_24 bp_m2 ?_
      refine s_iret B hQ hr dX9_feed_26 rfl ?_
      exact ⟨t, a_tape, by omega, by clear hQ B hr hsc; have ec : (nI k_3).toNatClampNeg = k_3 := nI_clamp (by omega); grind [mFeed, mFeedT], by clear hQ B hr hsc; have ec : (nI k_3).toNatClampNeg = k_3 := nI_clamp (by omega); grind [mFeed, mFeedT], (by clear hQ B hr hsc; have ec : (nI k_3).toNatClampNeg = k_3 := nI_clamp (by omega); unfold mFeedB; rw [if_pos (by grind)]), rfl⟩
  · refine s_iconst B dX9_feed_10 ic_m1 ?_
    refine s_iret B hQ hr dX9_feed_11 rfl ?_
    exact ⟨t, a_tape, by omega, by clear hQ B hr hsc; grind [mFeed, mFeedT], by clear hQ B hr hsc; grind [mFeed, mFeedT], (by clear hQ B hr hsc; unfold mFeedB; rw [if_pos (by grind)]), rfl⟩
