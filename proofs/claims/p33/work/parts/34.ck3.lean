set_option maxHeartbeats 4000000 in
set_option maxRecDepth 100000 in
theorem c_X6_bodyOfW (l : Launch) (D : va_G) (g : Nat → ClassId) (a0 : Int32) (f0 : Int32)  : Ci l yX6_bodyOf (WW yX6_bodyOf cX6_bodyOf 5 (some FieldType.int)) rmX6_bodyOf D vwCl (TY g) [.int a0, .int f0] [] (fun r u => (r = mBW a0 3 f0) ∧ u = []) := by
  refine ci_in (by decide) (Nat.le_of_ble_eq_true rfl) (a0 := []) rfl (fun p e s m args below meth c A Q hQ B hr hsc => ?_)
  have L4 : ∀ (jj4 : Nat) (v_1 : Int32) (k_2 : Nat), 3 - k_2 < jj4 → (k_2 ≤ 3) → (BwH a0 f0 v_1 k_2) → Sx p l e rmX6_bodyOf s m args below meth c D vwCl A 5 Q 4 [(0, .int a0), (2, .int v_1), (3, .int (nI k_2))] [] [] := by
    intro jj4
    induction jj4 with
    | zero => intro v_1 k_2 hj; exact absurd hj (Nat.not_lt_zero _)
    | succ jj4 ih4 =>
      intro v_1 k_2 hj4 h_3 hB_4
      refine s_iload_n B dX6_bodyOf_4 rfl 2 rfl ?_
      refine s_iconst B dX6_bodyOf_5 ic_3 ?_
      refine s_icmp_ge (tgt := 65) B dX6_bodyOf_6 rfl (fun h6 => ?_) (fun h6 => ?_)
      · replace h6 : 3 ≤ k_2 := (nI_leI (a := 3) (b := k_2) (by omega) (by omega)).mp h6
        refine s_iconst B dX6_bodyOf_65 ic_0 ?_
        refine s_iret B hQ hr dX6_bodyOf_66 rfl ?_
        exact ⟨(BwH_n hB_4 (by first | exact Or.inl (by assumption) | exact Or.inr (by assumption))), rfl⟩
      · replace h6 : ¬ 3 ≤ k_2 := fun hh => h6 ((nI_leI (a := 3) (b := k_2) (by omega) (by omega)).mpr hh)
        refine s_iload_n B dX6_bodyOf_9 rfl 1 rfl ?_
        refine s_callNi B hsc (c_X8_isKind l D g v_1) ml_X6_44 sm_yX8_isKind ini_RX8 co_yX8_isKind hd_X8_isKind rfl rfl ⟨(Nat.le_of_ble_eq_true rfl), (Nat.le_of_ble_eq_true rfl)⟩ [] [0, 1, 2, 3, 4] rfl rfl rfl rfl rfl (Nat.le_of_ble_eq_true rfl) dX6_bodyOf_10 (fun r u hpo => ?_)
        obtain ⟨rfl, rfl⟩ := hpo
        refine s_st (st' := [.int (if ¬ v_1 < 0 ∧ v_1 < 6 then 1 else 0)]) rfl ?_
        refine s_ws (ws' := []) rfl ?_
        refine s_bif_eq (tgt := 65) B dX6_bodyOf_13 rfl (fun h13 => ?_) (fun h13 => ?_)
        · refine s_iconst B dX6_bodyOf_65 ic_0 ?_
          refine s_iret B hQ hr dX6_bodyOf_66 rfl ?_
          exact ⟨(BwH_n hB_4 (by first | exact Or.inl (by assumption) | exact Or.inr (by assumption))), rfl⟩
        · obtain ⟨k_5, hk_6, rfl⟩ := nat_lt2 (N := 6) h13.1 h13.2 (by omega)
          have M53 : (k_2 ≤ 3) → (BwH a0 f0 (nI k_5) k_2) → (¬ 3 ≤ k_2) → (¬ (nI k_5) < 0 ∧ (nI k_5) < 6) → (k_5 < 6) → (BwH a0 f0 (tb_above k_5) (k_2 + 1)) → Sx p l e rmX6_bodyOf s m args below meth c D vwCl A 5 Q 53 [(0, .int a0), (2, .int (nI k_5)), (3, .int (nI k_2))] [] [] := by
            intro h_3 hB_4 h6 h13 hk_6 hB_10
            refine s_getsN B hsc.2.2.2.1 hsc.2.2.2.2.2 fl_X6_51 dX6_bodyOf_53 (fun t53 hT53 => ?_)
            refine s_iload_n B dX6_bodyOf_56 rfl 1 rfl ?_
            refine s_tiN B hT53 dX6_bodyOf_57 (by omega) (by decide) ?_
            refine s_istore_n (lv' := [(2, _), (0, _), (3, _)]) B dX6_bodyOf_58 rfl (Nat.le_of_ble_eq_true rfl) rfl ?_
            refine s_iinc (lv' := [(3, _), (2, _), (0, _)]) (k := 2) B dX6_bodyOf_59 rfl (ii_n _) (Nat.le_of_ble_eq_true rfl) rfl ?_
            refine s_goto (tgt := 4) B dX6_bodyOf_62 rfl ?_
            refine s_lv (lv' := [(0, _), (2, _), (3, _)]) [2, 1, 0] rfl ?_
            exact ih4 (tb_above k_5) (k_2 + 1) (by omega) (by omega) hB_10
          refine s_iload_n B dX6_bodyOf_16 rfl 1 rfl ?_
          refine s_iconst B dX6_bodyOf_17 ic_4 ?_
          refine s_imulE B dX6_bodyOf_18 (pk_mul k_5 4) ?_
          refine s_iload_n B dX6_bodyOf_19 rfl 0 rfl ?_
          refine s_iadd B dX6_bodyOf_20 ?_
          refine s_istore (lv' := [(4, _), (0, _), (2, _), (3, _)]) B dX6_bodyOf_21 (Nat.le_of_ble_eq_true rfl) rfl ?_
          refine s_iload B dX6_bodyOf_23 0 rfl ?_
          refine s_if_lt (tgt := 53) B dX6_bodyOf_25 rfl (fun h25 => ?_) (fun h25 => ?_)
          · refine s_lv (lv' := [(0, _), (2, _), (3, _)]) [1, 2, 3] rfl ?_
            exact M53  h_3 hB_4 h6 h13 hk_6 (BwH_s hB_4 h6 hk_6 (Or.inl h25))
          · refine s_iload B dX6_bodyOf_28 0 rfl ?_
            refine s_gets B hsc.2.2.2.2.1 fl_X6_48 dX6_bodyOf_30 (fun t30 hT30 => ?_)
            refine s_tlen B hT30 dX6_bodyOf_33 ?_
            refine s_icmp_ge (tgt := 53) B dX6_bodyOf_34 rfl (fun h34 => ?_) (fun h34 => ?_)
            · refine s_lv (lv' := [(0, _), (2, _), (3, _)]) [1, 2, 3] rfl ?_
              exact M53  h_3 hB_4 h6 h13 hk_6 (BwH_s hB_4 h6 hk_6 (Or.inr (Or.inl h34)))
            · obtain ⟨k_7, hk_8, he_9⟩ : ∃ k : Nat, k < 24 ∧ (nI (k_5 * 4)) + a0 = nI k := nat_lt2 (N := 24) (Int32.not_lt.mpr (Int32.not_lt.mp h25)) (Int32.not_le.mp h34) (by decide)
              refine s_lve (lv' := [(4, .int (nI k_7)), (0, .int a0), (2, .int (nI k_5)), (3, .int (nI k_2))]) (by rw [he_9]) ?_
              refine s_gets B hsc.2.2.2.2.1 fl_X6_48 dX6_bodyOf_37 (fun t37 hT37 => ?_)
              refine s_iload B dX6_bodyOf_40 0 rfl ?_
              refine s_tiN B hT37 dX6_bodyOf_42 (by omega) (by decide) ?_
              refine s_if_eq (tgt := 53) B dX6_bodyOf_43 rfl (fun h43 => ?_) (fun h43 => ?_)
              · refine s_lv (lv' := [(0, _), (2, _), (3, _)]) [1, 2, 3] rfl ?_
                exact M53  h_3 hB_4 h6 h13 hk_6 (BwH_s hB_4 h6 hk_6 (Or.inr (Or.inr ⟨_, hk_8, he_9, h43⟩)))
              · refine s_gets B hsc.2.2.2.2.1 fl_X6_48 dX6_bodyOf_46 (fun t46 hT46 => ?_)
                refine s_iload B dX6_bodyOf_49 0 rfl ?_
                refine s_tiN B hT46 dX6_bodyOf_51 (by omega) (by decide) ?_
                refine s_iret B hQ hr dX6_bodyOf_52 rfl ?_
                exact ⟨(BwH_f hB_4 h6 hk_6 hk_8 he_9 h43), rfl⟩
  refine s_iload_n B dX6_bodyOf_0 rfl 1 rfl ?_
  refine s_istore_n (lv' := [(2, _), (0, _), (1, _)]) B dX6_bodyOf_1 rfl (Nat.le_of_ble_eq_true rfl) rfl ?_
  refine s_iconst B dX6_bodyOf_2 ic_0 ?_
  refine s_istore_n (lv' := [(3, _), (2, _), (0, _), (1, _)]) B dX6_bodyOf_3 rfl (Nat.le_of_ble_eq_true rfl) rfl ?_
  refine s_lv (lv' := [(0, _), (2, _), (3, _)]) [2, 1, 0] rfl ?_
  refine s_lve (lv' := [(0, .int a0), (2, .int f0), (3, .int (nI 0))]) (by first | rfl | (simp only [if_pos, if_neg]; done)) ?_
  exact L4 _ f0 0 (Nat.lt_succ_self _) (by omega) BwH_0
def rmX6_runAct (j : Nat) : Room := { frames := 4 + 2 * j, cells := 0, slots := 0, locals := 100 + 48 * j }
def rmX6_runBody (j : Nat) : Room := { frames := 5 + 2 * j, cells := 0, slots := 0, locals := 125 + 48 * j }
theorem hd_X6_runAct : yX6_runAct.cls = RX6 ∧ yX6_runAct.cls ≠ "java/lang/invoke/MethodHandle" ∧ yX6_runAct.cls ≠ "java/lang/invoke/VarHandle" ∧ (parseMethodDescriptor yX6_runAct.desc).map (fun d => d.parameters.length) = some 4 := by decide +kernel
theorem hd_X6_runBody : yX6_runBody.cls = RX6 ∧ yX6_runBody.cls ≠ "java/lang/invoke/MethodHandle" ∧ yX6_runBody.cls ≠ "java/lang/invoke/VarHandle" ∧ (parseMethodDescriptor yX6_runBody.desc).map (fun d => d.parameters.length) = some 3 := by decide +kernel
set_option maxHeartbeats 4000000 in
set_option maxRecDepth 100000 in
theorem c_X6_runBodyS (l : Launch) (D : va_G) (g : Nat → ClassId) (th : Nat → Nat) (rn : Nat) (tk : Int32) (tn : Int32) (ta : Int32) (tp_ : Int32) (tc : Nat → Int32) (b0 : Int32) (x0 : Int32) (d : Nat) (j : Nat) (hA : ∀ (rn : Nat) (tk : Int32) (tn : Int32) (ta : Int32) (tp_ : Int32) (tc : Nat → Int32) (a0 f0 x0 : Int32) (d : Nat), rn ≤ 30 → 31 ≤ d + j → d ≤ 31 → Ci l yX6_runAct (WW yX6_runAct cX6_runAct 6 (some FieldType.int)) (rmX6_runAct j) D vwCl (TY g) [.ref (th 0), .int a0, .int f0, .int x0, .int (nI d)] [(th 0, .inr (6, [.ref (th 1), .int (nI rn), .int tk, .int tn, .int ta, .int tp_])), (th 1, .inl (g 0, 30, .inl tc))] (fun r u => ∃ (rn' : Nat) (tp_' : Int32) (tc' : Nat → Int32), (rn' ≤ 30) ∧ (((r, tp_', ((tc', rn') : MT)) : Int32 × Int32 × MT) = vRun (tAct tk tn ta (31 - d) a0 f0 x0 tp_) ((tc, rn) : MT)) ∧ u = [(th 0, .inr (6, [.ref (th 1), .int (nI rn'), .int tk, .int tn, .int ta, .int tp_'])), (th 1, .inl (g 0, 30, .inl tc'))]))  (hb_rn : rn ≤ 30) (hpre0 : 31 ≤ d + j) (hpre1 : d ≤ 31) : Ci l yX6_runBody (WW yX6_runBody cX6_runBody 4 (some FieldType.int)) (rmX6_runBody j) D vwCl (TY g) [.ref (th 0), .int b0, .int x0, .int (nI d)] [(th 0, .inr (6, [.ref (th 1), .int (nI rn), .int tk, .int tn, .int ta, .int tp_])), (th 1, .inl (g 0, 30, .inl tc))] (fun r u => ∃ (rn' : Nat) (tp_' : Int32) (tc' : Nat → Int32), (rn' ≤ 30) ∧ (((r, tp_', ((tc', rn') : MT)) : Int32 × Int32 × MT) = vRun (tBody (tAct tk tn ta (31 - d)) tk tn ta b0 x0 tp_) ((tc, rn) : MT)) ∧ u = [(th 0, .inr (6, [.ref (th 1), .int (nI rn'), .int tk, .int tn, .int ta, .int tp_'])), (th 1, .inl (g 0, 30, .inl tc'))]) := by
  refine ci_in (by decide) (Nat.le_of_ble_eq_true rfl) (a0 := [th 0, th 1]) rfl (fun p e s m args below meth c A Q hQ B hr hsc => ?_)
  refine s_iload_n B dX6_runBody_0 rfl 1 rfl ?_
  by_cases k1_10 : b0 = 10
  · refine s_tableIn (off := 223) (tgt := 224) B dX6_runBody_1 (by rw [k1_10]; decide) (by rw [k1_10]; decide) (by rw [k1_10]; rfl) rfl ?_
    refine s_iload_n B dX6_runBody_224 rfl 2 rfl ?_
    refine s_aload_n B dX6_runBody_225 rfl 0 rfl ?_
    refine s_get (T := TX6) B inX6 0 rfl rfl 3 (Nat.le_of_ble_eq_true rfl) fl_X6_22 rfl rfl dX6_runBody_226 ?_
    refine s_iadd B dX6_runBody_229 ?_
    refine s_iret B hQ hr dX6_runBody_230 rfl ?_
    exact ⟨rn, tp_, tc, by omega, (by rw [k1_10, tb_10]; rfl), rfl⟩
  · by_cases k1_11 : b0 = 11
    · refine s_tableIn (off := 230) (tgt := 231) B dX6_runBody_1 (by rw [k1_11]; decide) (by rw [k1_11]; decide) (by rw [k1_11]; rfl) rfl ?_
      refine s_aload_n B dX6_runBody_231 rfl 0 rfl ?_
      refine s_iconst B dX6_runBody_232 ic_0 ?_
      refine s_aload_n B dX6_runBody_233 rfl 0 rfl ?_
      refine s_get (T := TX6) B inX6 0 rfl rfl 2 (Nat.le_of_ble_eq_true rfl) fl_X6_19 rfl rfl dX6_runBody_234 ?_
      refine s_iload_n B dX6_runBody_237 rfl 2 rfl ?_
      refine s_iload_n B dX6_runBody_238 rfl 3 rfl ?_
      refine s_callVi B hsc (hA rn tk tn ta tp_ tc 0 tk x0 d (by omega) (by omega) (by omega)) (gw_V ml_X6_32 im_yX6_runAct se_yX6_runAct ini_RX6 co_yX6_runAct) hd_X6_runAct rfl rfl (by constructor <;> (show _ ≤ _) <;> simp only [rmX6_runAct, rmX6_runBody] <;> omega) [0, 1] [0, 1, 2, 3, 4] rfl rfl rfl (ci := 6) (q0 := 0) rfl rfl rfl rfl rfl (Nat.le_of_ble_eq_true rfl) dX6_runBody_239 (fun r_1 u_2 hpo => ?_)
      obtain ⟨rn_3, tp__4, tc_5, hb_6, hv_7, rfl⟩ := hpo
      refine s_ws (ws' := [(th 0, .inr (6, [.ref (th 1), .int (nI rn_3), .int tk, .int tn, .int ta, .int tp__4])), (th 1, .inl (g 0, 30, .inl tc_5))]) rfl ?_
      refine s_iconst B dX6_runBody_242 ic_2 ?_
      refine s_imul B dX6_runBody_243 ?_
      refine s_iret B hQ hr dX6_runBody_244 rfl ?_
      exact ⟨rn_3, tp__4, tc_5, by omega, (by rw [k1_11, tb_11]; exact vRun_map (fun v => v * 2) hv_7), rfl⟩
    · by_cases k1_12 : b0 = 12
      · refine s_tableIn (off := 244) (tgt := 245) B dX6_runBody_1 (by rw [k1_12]; decide) (by rw [k1_12]; decide) (by rw [k1_12]; rfl) rfl ?_
        refine s_aload_n B dX6_runBody_245 rfl 0 rfl ?_
        refine s_iload_n B dX6_runBody_246 rfl 2 rfl ?_
        refine s_callVi B hsc (c_X6_shared l D g th tc rn tk tn ta tp_ x0) (gw_V ml_X6_54 im_yX6_shared se_yX6_shared ini_RX6 co_yX6_shared) hd_X6_shared rfl rfl (by constructor <;> (show _ ≤ _) <;> simp only [rmX6_shared, rmX6_runBody] <;> omega) [0, 1] [0, 1, 2, 3, 4] rfl rfl rfl (ci := 6) (q0 := 0) rfl rfl rfl rfl rfl (Nat.le_of_ble_eq_true rfl) dX6_runBody_247 (fun r_8 u_9 hpo => ?_)
        obtain ⟨rfl, rfl⟩ := hpo
        refine s_st (st' := [.int (if ta - tn = 0 then 0 else x0 / (ta - tn))]) rfl ?_
        refine s_ws (ws' := [(th 0, .inr (6, [.ref (th 1), .int (nI rn), .int tk, .int tn, .int ta, .int (if ta - tn = 0 then 1 else tp_)])), (th 1, .inl (g 0, 30, .inl tc))]) rfl ?_
        refine s_iret B hQ hr dX6_runBody_250 rfl ?_
        exact ⟨rn, (if ta - tn = 0 then 1 else tp_), tc, by omega, (by rw [k1_12, tb_12]; rfl), rfl⟩
      · by_cases k1_13 : b0 = 13
        · refine s_tableIn (off := 250) (tgt := 251) B dX6_runBody_1 (by rw [k1_13]; decide) (by rw [k1_13]; decide) (by rw [k1_13]; rfl) rfl ?_
          refine s_aload_n B dX6_runBody_251 rfl 0 rfl ?_
          refine s_iconst B dX6_runBody_252 ic_1 ?_
          refine s_aload_n B dX6_runBody_253 rfl 0 rfl ?_
          refine s_get (T := TX6) B inX6 0 rfl rfl 2 (Nat.le_of_ble_eq_true rfl) fl_X6_19 rfl rfl dX6_runBody_254 ?_
          refine s_iload_n B dX6_runBody_257 rfl 2 rfl ?_
          refine s_iload_n B dX6_runBody_258 rfl 3 rfl ?_
          refine s_callVi B hsc (hA rn tk tn ta tp_ tc 1 tk x0 d (by omega) (by omega) (by omega)) (gw_V ml_X6_32 im_yX6_runAct se_yX6_runAct ini_RX6 co_yX6_runAct) hd_X6_runAct rfl rfl (by constructor <;> (show _ ≤ _) <;> simp only [rmX6_runAct, rmX6_runBody] <;> omega) [0, 1] [0, 1, 2, 3, 4] rfl rfl rfl (ci := 6) (q0 := 0) rfl rfl rfl rfl rfl (Nat.le_of_ble_eq_true rfl) dX6_runBody_259 (fun r_10 u_11 hpo => ?_)
          obtain ⟨rn_12, tp__13, tc_14, hb_15, hv_16, rfl⟩ := hpo
          refine s_ws (ws' := [(th 0, .inr (6, [.ref (th 1), .int (nI rn_12), .int tk, .int tn, .int ta, .int tp__13])), (th 1, .inl (g 0, 30, .inl tc_14))]) rfl ?_
          refine s_aload_n B dX6_runBody_262 rfl 0 rfl ?_
          refine s_get (T := TX6) B inX6 0 rfl rfl 4 (Nat.le_of_ble_eq_true rfl) fl_X6_25 rfl rfl dX6_runBody_263 ?_
          refine s_ixor B dX6_runBody_266 ?_
          refine s_iret B hQ hr dX6_runBody_267 rfl ?_
          exact ⟨rn_12, tp__13, tc_14, by omega, (by rw [k1_13, tb_13]; exact vRun_map (fun v => v ^^^ ta) hv_16), rfl⟩
        · by_cases k1_14 : b0 = 14
          · refine s_tableIn (off := 449) (tgt := 450) B dX6_runBody_1 (by rw [k1_14]; decide) (by rw [k1_14]; decide) (by rw [k1_14]; rfl) rfl ?_
            refine s_iconst B dX6_runBody_450 ic_0 ?_
            refine s_iret B hQ hr dX6_runBody_451 rfl ?_
            exact ⟨rn, tp_, tc, by omega, (by rw [k1_14]; rfl), rfl⟩
          · by_cases k1_15 : b0 = 15
            · refine s_tableIn (off := 449) (tgt := 450) B dX6_runBody_1 (by rw [k1_15]; decide) (by rw [k1_15]; decide) (by rw [k1_15]; rfl) rfl ?_
              refine s_iconst B dX6_runBody_450 ic_0 ?_
              refine s_iret B hQ hr dX6_runBody_451 rfl ?_
              exact ⟨rn, tp_, tc, by omega, (by rw [k1_15]; rfl), rfl⟩
            · by_cases k1_16 : b0 = 16
              · refine s_tableIn (off := 449) (tgt := 450) B dX6_runBody_1 (by rw [k1_16]; decide) (by rw [k1_16]; decide) (by rw [k1_16]; rfl) rfl ?_
                refine s_iconst B dX6_runBody_450 ic_0 ?_
                refine s_iret B hQ hr dX6_runBody_451 rfl ?_
                exact ⟨rn, tp_, tc, by omega, (by rw [k1_16]; rfl), rfl⟩
              · by_cases k1_17 : b0 = 17
                · refine s_tableIn (off := 449) (tgt := 450) B dX6_runBody_1 (by rw [k1_17]; decide) (by rw [k1_17]; decide) (by rw [k1_17]; rfl) rfl ?_
                  refine s_iconst B dX6_runBody_450 ic_0 ?_
                  refine s_iret B hQ hr dX6_runBody_451 rfl ?_
                  exact ⟨rn, tp_, tc, by omega, (by rw [k1_17]; rfl), rfl⟩
                · by_cases k1_18 : b0 = 18
                  · refine s_tableIn (off := 449) (tgt := 450) B dX6_runBody_1 (by rw [k1_18]; decide) (by rw [k1_18]; decide) (by rw [k1_18]; rfl) rfl ?_
                    refine s_iconst B dX6_runBody_450 ic_0 ?_
                    refine s_iret B hQ hr dX6_runBody_451 rfl ?_
                    exact ⟨rn, tp_, tc, by omega, (by rw [k1_18]; rfl), rfl⟩
                  · by_cases k1_19 : b0 = 19
                    · refine s_tableIn (off := 449) (tgt := 450) B dX6_runBody_1 (by rw [k1_19]; decide) (by rw [k1_19]; decide) (by rw [k1_19]; rfl) rfl ?_
                      refine s_iconst B dX6_runBody_450 ic_0 ?_
                      refine s_iret B hQ hr dX6_runBody_451 rfl ?_
                      exact ⟨rn, tp_, tc, by omega, (by rw [k1_19]; rfl), rfl⟩
                    · by_cases k1_20 : b0 = 20
                      · refine s_tableIn (off := 267) (tgt := 268) B dX6_runBody_1 (by rw [k1_20]; decide) (by rw [k1_20]; decide) (by rw [k1_20]; rfl) rfl ?_
                        refine s_aload_n B dX6_runBody_268 rfl 0 rfl ?_
                        refine s_iconst B dX6_runBody_269 ic_1 ?_
                        refine s_getsN B hsc.2.2.2.1 hsc.2.2.2.2.2 fl_X6_51 dX6_runBody_270 (fun t270 hT270 => ?_)
                        refine s_iconst B dX6_runBody_273 ic_1 ?_
                        refine s_tiN B hT270 dX6_runBody_274 (by decide) (by decide) ?_
                        refine s_iload_n B dX6_runBody_275 rfl 2 rfl ?_
                        refine s_iload_n B dX6_runBody_276 rfl 3 rfl ?_
                        refine s_callVi B hsc (hA rn tk tn ta tp_ tc 1 (tb_above 1) x0 d (by omega) (by omega) (by omega)) (gw_V ml_X6_32 im_yX6_runAct se_yX6_runAct ini_RX6 co_yX6_runAct) hd_X6_runAct rfl rfl (by constructor <;> (show _ ≤ _) <;> simp only [rmX6_runAct, rmX6_runBody] <;> omega) [0, 1] [0, 1, 2, 3, 4] rfl rfl rfl (ci := 6) (q0 := 0) rfl rfl rfl rfl rfl (Nat.le_of_ble_eq_true rfl) dX6_runBody_277 (fun r_17 u_18 hpo => ?_)
                        obtain ⟨rn_19, tp__20, tc_21, hb_22, hv_23, rfl⟩ := hpo
                        refine s_ws (ws' := [(th 0, .inr (6, [.ref (th 1), .int (nI rn_19), .int tk, .int tn, .int ta, .int tp__20])), (th 1, .inl (g 0, 30, .inl tc_21))]) rfl ?_
                        refine s_aload_n B dX6_runBody_280 rfl 0 rfl ?_
                        refine s_get (T := TX6) B inX6 0 rfl rfl 4 (Nat.le_of_ble_eq_true rfl) fl_X6_25 rfl rfl dX6_runBody_281 ?_
                        refine s_isub B dX6_runBody_284 ?_
                        refine s_iret B hQ hr dX6_runBody_285 rfl ?_
                        exact ⟨rn_19, tp__20, tc_21, by omega, (by rw [k1_20, tb_20]; exact vRun_map (fun v => v - ta) hv_23), rfl⟩
                      · by_cases k1_21 : b0 = 21
                        · refine s_tableIn (off := 449) (tgt := 450) B dX6_runBody_1 (by rw [k1_21]; decide) (by rw [k1_21]; decide) (by rw [k1_21]; rfl) rfl ?_
                          refine s_iconst B dX6_runBody_450 ic_0 ?_
                          refine s_iret B hQ hr dX6_runBody_451 rfl ?_
                          exact ⟨rn, tp_, tc, by omega, (by rw [k1_21]; rfl), rfl⟩
                        · by_cases k1_22 : b0 = 22
                          · refine s_tableIn (off := 449) (tgt := 450) B dX6_runBody_1 (by rw [k1_22]; decide) (by rw [k1_22]; decide) (by rw [k1_22]; rfl) rfl ?_
                            refine s_iconst B dX6_runBody_450 ic_0 ?_
                            refine s_iret B hQ hr dX6_runBody_451 rfl ?_
                            exact ⟨rn, tp_, tc, by omega, (by rw [k1_22]; rfl), rfl⟩
                          · by_cases k1_23 : b0 = 23
                            · refine s_tableIn (off := 449) (tgt := 450) B dX6_runBody_1 (by rw [k1_23]; decide) (by rw [k1_23]; decide) (by rw [k1_23]; rfl) rfl ?_
                              refine s_iconst B dX6_runBody_450 ic_0 ?_
                              refine s_iret B hQ hr dX6_runBody_451 rfl ?_
                              exact ⟨rn, tp_, tc, by omega, (by rw [k1_23]; rfl), rfl⟩
                            · by_cases k1_24 : b0 = 24
                              · refine s_tableIn (off := 449) (tgt := 450) B dX6_runBody_1 (by rw [k1_24]; decide) (by rw [k1_24]; decide) (by rw [k1_24]; rfl) rfl ?_
                                refine s_iconst B dX6_runBody_450 ic_0 ?_
                                refine s_iret B hQ hr dX6_runBody_451 rfl ?_
                                exact ⟨rn, tp_, tc, by omega, (by rw [k1_24]; rfl), rfl⟩
                              · by_cases k1_25 : b0 = 25
                                · refine s_tableIn (off := 449) (tgt := 450) B dX6_runBody_1 (by rw [k1_25]; decide) (by rw [k1_25]; decide) (by rw [k1_25]; rfl) rfl ?_
                                  refine s_iconst B dX6_runBody_450 ic_0 ?_
                                  refine s_iret B hQ hr dX6_runBody_451 rfl ?_
                                  exact ⟨rn, tp_, tc, by omega, (by rw [k1_25]; rfl), rfl⟩
                                · by_cases k1_26 : b0 = 26
                                  · refine s_tableIn (off := 449) (tgt := 450) B dX6_runBody_1 (by rw [k1_26]; decide) (by rw [k1_26]; decide) (by rw [k1_26]; rfl) rfl ?_
                                    refine s_iconst B dX6_runBody_450 ic_0 ?_
                                    refine s_iret B hQ hr dX6_runBody_451 rfl ?_
                                    exact ⟨rn, tp_, tc, by omega, (by rw [k1_26]; rfl), rfl⟩
                                  · by_cases k1_27 : b0 = 27
                                    · refine s_tableIn (off := 449) (tgt := 450) B dX6_runBody_1 (by rw [k1_27]; decide) (by rw [k1_27]; decide) (by rw [k1_27]; rfl) rfl ?_
                                      refine s_iconst B dX6_runBody_450 ic_0 ?_
                                      refine s_iret B hQ hr dX6_runBody_451 rfl ?_
                                      exact ⟨rn, tp_, tc, by omega, (by rw [k1_27]; rfl), rfl⟩
                                    · by_cases k1_28 : b0 = 28
                                      · refine s_tableIn (off := 449) (tgt := 450) B dX6_runBody_1 (by rw [k1_28]; decide) (by rw [k1_28]; decide) (by rw [k1_28]; rfl) rfl ?_
                                        refine s_iconst B dX6_runBody_450 ic_0 ?_
                                        refine s_iret B hQ hr dX6_runBody_451 rfl ?_
                                        exact ⟨rn, tp_, tc, by omega, (by rw [k1_28]; rfl), rfl⟩
                                      · by_cases k1_29 : b0 = 29
                                        · refine s_tableIn (off := 449) (tgt := 450) B dX6_runBody_1 (by rw [k1_29]; decide) (by rw [k1_29]; decide) (by rw [k1_29]; rfl) rfl ?_
                                          refine s_iconst B dX6_runBody_450 ic_0 ?_
                                          refine s_iret B hQ hr dX6_runBody_451 rfl ?_
                                          exact ⟨rn, tp_, tc, by omega, (by rw [k1_29]; rfl), rfl⟩
                                        · by_cases k1_30 : b0 = 30
                                          · refine s_tableIn (off := 285) (tgt := 286) B dX6_runBody_1 (by rw [k1_30]; decide) (by rw [k1_30]; decide) (by rw [k1_30]; rfl) rfl ?_
                                            refine s_aload_n B dX6_runBody_286 rfl 0 rfl ?_
                                            refine s_iconst B dX6_runBody_287 ic_0 ?_
                                            refine s_getsN B hsc.2.2.2.1 hsc.2.2.2.2.2 fl_X6_51 dX6_runBody_288 (fun t288 hT288 => ?_)
                                            refine s_iconst B dX6_runBody_291 ic_2 ?_
                                            refine s_tiN B hT288 dX6_runBody_292 (by decide) (by decide) ?_
                                            refine s_iload_n B dX6_runBody_293 rfl 2 rfl ?_
                                            refine s_iload_n B dX6_runBody_294 rfl 3 rfl ?_
                                            refine s_callVi B hsc (hA rn tk tn ta tp_ tc 0 (tb_above 2) x0 d (by omega) (by omega) (by omega)) (gw_V ml_X6_32 im_yX6_runAct se_yX6_runAct ini_RX6 co_yX6_runAct) hd_X6_runAct rfl rfl (by constructor <;> (show _ ≤ _) <;> simp only [rmX6_runAct, rmX6_runBody] <;> omega) [0, 1] [0, 1, 2, 3, 4] rfl rfl rfl (ci := 6) (q0 := 0) rfl rfl rfl rfl rfl (Nat.le_of_ble_eq_true rfl) dX6_runBody_295 (fun r_24 u_25 hpo => ?_)
                                            obtain ⟨rn_26, tp__27, tc_28, hb_29, hv_30, rfl⟩ := hpo
                                            refine s_ws (ws' := [(th 0, .inr (6, [.ref (th 1), .int (nI rn_26), .int tk, .int tn, .int ta, .int tp__27])), (th 1, .inl (g 0, 30, .inl tc_28))]) rfl ?_
                                            refine s_iconst B dX6_runBody_298 ic_3 ?_
                                            refine s_imul B dX6_runBody_299 ?_
                                            refine s_iret B hQ hr dX6_runBody_300 rfl ?_
                                            exact ⟨rn_26, tp__27, tc_28, by omega, (by rw [k1_30, tb_30]; exact vRun_map (fun v => v * 3) hv_30), rfl⟩
                                          · by_cases k1_31 : b0 = 31
                                            · refine s_tableIn (off := 300) (tgt := 301) B dX6_runBody_1 (by rw [k1_31]; decide) (by rw [k1_31]; decide) (by rw [k1_31]; rfl) rfl ?_
                                              refine s_aload_n B dX6_runBody_301 rfl 0 rfl ?_
                                              refine s_iconst B dX6_runBody_302 ic_3 ?_
                                              refine s_getsN B hsc.2.2.2.1 hsc.2.2.2.2.2 fl_X6_51 dX6_runBody_303 (fun t303 hT303 => ?_)
                                              refine s_iconst B dX6_runBody_306 ic_2 ?_
                                              refine s_tiN B hT303 dX6_runBody_307 (by decide) (by decide) ?_
                                              refine s_iload_n B dX6_runBody_308 rfl 2 rfl ?_
                                              refine s_iload_n B dX6_runBody_309 rfl 3 rfl ?_
                                              refine s_callVi B hsc (hA rn tk tn ta tp_ tc 3 (tb_above 2) x0 d (by omega) (by omega) (by omega)) (gw_V ml_X6_32 im_yX6_runAct se_yX6_runAct ini_RX6 co_yX6_runAct) hd_X6_runAct rfl rfl (by constructor <;> (show _ ≤ _) <;> simp only [rmX6_runAct, rmX6_runBody] <;> omega) [0, 1] [0, 1, 2, 3, 4] rfl rfl rfl (ci := 6) (q0 := 0) rfl rfl rfl rfl rfl (Nat.le_of_ble_eq_true rfl) dX6_runBody_310 (fun r_31 u_32 hpo => ?_)
                                              obtain ⟨rn_33, tp__34, tc_35, hb_36, hv_37, rfl⟩ := hpo
                                              refine s_ws (ws' := [(th 0, .inr (6, [.ref (th 1), .int (nI rn_33), .int tk, .int tn, .int ta, .int tp__34])), (th 1, .inl (g 0, 30, .inl tc_35))]) rfl ?_
                                              refine s_aload_n B dX6_runBody_313 rfl 0 rfl ?_
                                              refine s_iconst B dX6_runBody_314 ic_2 ?_
                                              refine s_aload_n B dX6_runBody_315 rfl 0 rfl ?_
                                              refine s_get (T := TX6) B inX6 0 rfl rfl 2 (Nat.le_of_ble_eq_true rfl) fl_X6_19 rfl rfl dX6_runBody_316 ?_
                                              refine s_aload_n B dX6_runBody_319 rfl 0 rfl ?_
                                              refine s_get (T := TX6) B inX6 0 rfl rfl 3 (Nat.le_of_ble_eq_true rfl) fl_X6_22 rfl rfl dX6_runBody_320 ?_
                                              refine s_iload_n B dX6_runBody_323 rfl 3 rfl ?_
                                              refine s_callVi B hsc (hA rn_33 tk tn ta tp__34 tc_35 2 tk tn d (by omega) (by omega) (by omega)) (gw_V ml_X6_32 im_yX6_runAct se_yX6_runAct ini_RX6 co_yX6_runAct) hd_X6_runAct rfl rfl (by constructor <;> (show _ ≤ _) <;> simp only [rmX6_runAct, rmX6_runBody] <;> omega) [0, 1] [0, 1, 2, 3, 4] rfl rfl rfl (ci := 6) (q0 := 0) rfl rfl rfl rfl rfl (Nat.le_of_ble_eq_true rfl) dX6_runBody_324 (fun r_38 u_39 hpo => ?_)
                                              obtain ⟨rn_40, tp__41, tc_42, hb_43, hv_44, rfl⟩ := hpo
                                              refine s_ws (ws' := [(th 0, .inr (6, [.ref (th 1), .int (nI rn_40), .int tk, .int tn, .int ta, .int tp__41])), (th 1, .inl (g 0, 30, .inl tc_42))]) rfl ?_
                                              refine s_iadd B dX6_runBody_327 ?_
                                              refine s_iret B hQ hr dX6_runBody_328 rfl ?_
                                              exact ⟨rn_40, tp__41, tc_42, by omega, (by rw [k1_31, tb_31]; exact vRun_add hv_37 hv_44), rfl⟩
                                            · by_cases k1_32 : b0 = 32
                                              · refine s_tableIn (off := 449) (tgt := 450) B dX6_runBody_1 (by rw [k1_32]; decide) (by rw [k1_32]; decide) (by rw [k1_32]; rfl) rfl ?_
                                                refine s_iconst B dX6_runBody_450 ic_0 ?_
                                                refine s_iret B hQ hr dX6_runBody_451 rfl ?_
                                                exact ⟨rn, tp_, tc, by omega, (by rw [k1_32]; rfl), rfl⟩
                                              · by_cases k1_33 : b0 = 33
                                                · refine s_tableIn (off := 449) (tgt := 450) B dX6_runBody_1 (by rw [k1_33]; decide) (by rw [k1_33]; decide) (by rw [k1_33]; rfl) rfl ?_
                                                  refine s_iconst B dX6_runBody_450 ic_0 ?_
                                                  refine s_iret B hQ hr dX6_runBody_451 rfl ?_
                                                  exact ⟨rn, tp_, tc, by omega, (by rw [k1_33]; rfl), rfl⟩
                                                · by_cases k1_34 : b0 = 34
                                                  · refine s_tableIn (off := 449) (tgt := 450) B dX6_runBody_1 (by rw [k1_34]; decide) (by rw [k1_34]; decide) (by rw [k1_34]; rfl) rfl ?_
                                                    refine s_iconst B dX6_runBody_450 ic_0 ?_
                                                    refine s_iret B hQ hr dX6_runBody_451 rfl ?_
                                                    exact ⟨rn, tp_, tc, by omega, (by rw [k1_34]; rfl), rfl⟩
                                                  · by_cases k1_35 : b0 = 35
                                                    · refine s_tableIn (off := 449) (tgt := 450) B dX6_runBody_1 (by rw [k1_35]; decide) (by rw [k1_35]; decide) (by rw [k1_35]; rfl) rfl ?_
                                                      refine s_iconst B dX6_runBody_450 ic_0 ?_
                                                      refine s_iret B hQ hr dX6_runBody_451 rfl ?_
                                                      exact ⟨rn, tp_, tc, by omega, (by rw [k1_35]; rfl), rfl⟩
                                                    · by_cases k1_36 : b0 = 36
                                                      · refine s_tableIn (off := 449) (tgt := 450) B dX6_runBody_1 (by rw [k1_36]; decide) (by rw [k1_36]; decide) (by rw [k1_36]; rfl) rfl ?_
                                                        refine s_iconst B dX6_runBody_450 ic_0 ?_
                                                        refine s_iret B hQ hr dX6_runBody_451 rfl ?_
                                                        exact ⟨rn, tp_, tc, by omega, (by rw [k1_36]; rfl), rfl⟩
                                                      · by_cases k1_37 : b0 = 37
                                                        · refine s_tableIn (off := 449) (tgt := 450) B dX6_runBody_1 (by rw [k1_37]; decide) (by rw [k1_37]; decide) (by rw [k1_37]; rfl) rfl ?_
                                                          refine s_iconst B dX6_runBody_450 ic_0 ?_
                                                          refine s_iret B hQ hr dX6_runBody_451 rfl ?_
                                                          exact ⟨rn, tp_, tc, by omega, (by rw [k1_37]; rfl), rfl⟩
                                                        · by_cases k1_38 : b0 = 38
                                                          · refine s_tableIn (off := 449) (tgt := 450) B dX6_runBody_1 (by rw [k1_38]; decide) (by rw [k1_38]; decide) (by rw [k1_38]; rfl) rfl ?_
                                                            refine s_iconst B dX6_runBody_450 ic_0 ?_
                                                            refine s_iret B hQ hr dX6_runBody_451 rfl ?_
                                                            exact ⟨rn, tp_, tc, by omega, (by rw [k1_38]; rfl), rfl⟩
                                                          · by_cases k1_39 : b0 = 39
                                                            · refine s_tableIn (off := 449) (tgt := 450) B dX6_runBody_1 (by rw [k1_39]; decide) (by rw [k1_39]; decide) (by rw [k1_39]; rfl) rfl ?_
                                                              refine s_iconst B dX6_runBody_450 ic_0 ?_
                                                              refine s_iret B hQ hr dX6_runBody_451 rfl ?_
                                                              exact ⟨rn, tp_, tc, by omega, (by rw [k1_39]; rfl), rfl⟩
                                                            · by_cases k1_40 : b0 = 40
                                                              · refine s_tableIn (off := 328) (tgt := 329) B dX6_runBody_1 (by rw [k1_40]; decide) (by rw [k1_40]; decide) (by rw [k1_40]; rfl) rfl ?_
                                                                refine s_iconst B dX6_runBody_329 ic_0 ?_
                                                                refine s_aload_n B dX6_runBody_330 rfl 0 rfl ?_
                                                                refine s_iconst B dX6_runBody_331 ic_0 ?_
                                                                refine s_getsN B hsc.2.2.2.1 hsc.2.2.2.2.2 fl_X6_51 dX6_runBody_332 (fun t332 hT332 => ?_)
                                                                refine s_iconst B dX6_runBody_335 ic_5 ?_
                                                                refine s_tiN B hT332 dX6_runBody_336 (by decide) (by decide) ?_
                                                                refine s_iload_n B dX6_runBody_337 rfl 2 rfl ?_
                                                                refine s_iload_n B dX6_runBody_338 rfl 3 rfl ?_
                                                                refine s_callVi B hsc (hA rn tk tn ta tp_ tc 0 (tb_above 5) x0 d (by omega) (by omega) (by omega)) (gw_V ml_X6_32 im_yX6_runAct se_yX6_runAct ini_RX6 co_yX6_runAct) hd_X6_runAct rfl rfl (by constructor <;> (show _ ≤ _) <;> simp only [rmX6_runAct, rmX6_runBody] <;> omega) [0, 1] [0, 1, 2, 3, 4] rfl rfl rfl (ci := 6) (q0 := 0) rfl rfl rfl rfl rfl (Nat.le_of_ble_eq_true rfl) dX6_runBody_339 (fun r_45 u_46 hpo => ?_)
                                                                obtain ⟨rn_47, tp__48, tc_49, hb_50, hv_51, rfl⟩ := hpo
                                                                refine s_ws (ws' := [(th 0, .inr (6, [.ref (th 1), .int (nI rn_47), .int tk, .int tn, .int ta, .int tp__48])), (th 1, .inl (g 0, 30, .inl tc_49))]) rfl ?_
                                                                refine s_isub B dX6_runBody_342 ?_
                                                                refine s_iret B hQ hr dX6_runBody_343 rfl ?_
                                                                exact ⟨rn_47, tp__48, tc_49, by omega, (by rw [k1_40, tb_40]; exact vRun_map (fun v => 0 - v) hv_51), rfl⟩
                                                              · by_cases k1_41 : b0 = 41
                                                                · refine s_tableIn (off := 343) (tgt := 344) B dX6_runBody_1 (by rw [k1_41]; decide) (by rw [k1_41]; decide) (by rw [k1_41]; rfl) rfl ?_
                                                                  refine s_aload_n B dX6_runBody_344 rfl 0 rfl ?_
                                                                  refine s_iconst B dX6_runBody_345 ic_1 ?_
                                                                  refine s_getsN B hsc.2.2.2.1 hsc.2.2.2.2.2 fl_X6_51 dX6_runBody_346 (fun t346 hT346 => ?_)
                                                                  refine s_iconst B dX6_runBody_349 ic_5 ?_
                                                                  refine s_tiN B hT346 dX6_runBody_350 (by decide) (by decide) ?_
                                                                  refine s_iload_n B dX6_runBody_351 rfl 2 rfl ?_
                                                                  refine s_iload_n B dX6_runBody_352 rfl 3 rfl ?_
                                                                  refine s_callVi B hsc (hA rn tk tn ta tp_ tc 1 (tb_above 5) x0 d (by omega) (by omega) (by omega)) (gw_V ml_X6_32 im_yX6_runAct se_yX6_runAct ini_RX6 co_yX6_runAct) hd_X6_runAct rfl rfl (by constructor <;> (show _ ≤ _) <;> simp only [rmX6_runAct, rmX6_runBody] <;> omega) [0, 1] [0, 1, 2, 3, 4] rfl rfl rfl (ci := 6) (q0 := 0) rfl rfl rfl rfl rfl (Nat.le_of_ble_eq_true rfl) dX6_runBody_353 (fun r_52 u_53 hpo => ?_)
                                                                  obtain ⟨rn_54, tp__55, tc_56, hb_57, hv_58, rfl⟩ := hpo
                                                                  refine s_ws (ws' := [(th 0, .inr (6, [.ref (th 1), .int (nI rn_54), .int tk, .int tn, .int ta, .int tp__55])), (th 1, .inl (g 0, 30, .inl tc_56))]) rfl ?_
                                                                  refine s_aload_n B dX6_runBody_356 rfl 0 rfl ?_
                                                                  refine s_iconst B dX6_runBody_357 ic_0 ?_
                                                                  refine s_aload_n B dX6_runBody_358 rfl 0 rfl ?_
                                                                  refine s_get (T := TX6) B inX6 0 rfl rfl 2 (Nat.le_of_ble_eq_true rfl) fl_X6_19 rfl rfl dX6_runBody_359 ?_
                                                                  refine s_aload_n B dX6_runBody_362 rfl 0 rfl ?_
                                                                  refine s_get (T := TX6) B inX6 0 rfl rfl 3 (Nat.le_of_ble_eq_true rfl) fl_X6_22 rfl rfl dX6_runBody_363 ?_
                                                                  refine s_iload_n B dX6_runBody_366 rfl 3 rfl ?_
                                                                  refine s_callVi B hsc (hA rn_54 tk tn ta tp__55 tc_56 0 tk tn d (by omega) (by omega) (by omega)) (gw_V ml_X6_32 im_yX6_runAct se_yX6_runAct ini_RX6 co_yX6_runAct) hd_X6_runAct rfl rfl (by constructor <;> (show _ ≤ _) <;> simp only [rmX6_runAct, rmX6_runBody] <;> omega) [0, 1] [0, 1, 2, 3, 4] rfl rfl rfl (ci := 6) (q0 := 0) rfl rfl rfl rfl rfl (Nat.le_of_ble_eq_true rfl) dX6_runBody_367 (fun r_59 u_60 hpo => ?_)
                                                                  obtain ⟨rn_61, tp__62, tc_63, hb_64, hv_65, rfl⟩ := hpo
                                                                  refine s_ws (ws' := [(th 0, .inr (6, [.ref (th 1), .int (nI rn_61), .int tk, .int tn, .int ta, .int tp__62])), (th 1, .inl (g 0, 30, .inl tc_63))]) rfl ?_
                                                                  refine s_iadd B dX6_runBody_370 ?_
                                                                  refine s_iret B hQ hr dX6_runBody_371 rfl ?_
                                                                  exact ⟨rn_61, tp__62, tc_63, by omega, (by rw [k1_41, tb_41]; exact vRun_add hv_58 hv_65), rfl⟩
                                                                · by_cases k1_42 : b0 = 42
                                                                  · refine s_tableIn (off := 449) (tgt := 450) B dX6_runBody_1 (by rw [k1_42]; decide) (by rw [k1_42]; decide) (by rw [k1_42]; rfl) rfl ?_
                                                                    refine s_iconst B dX6_runBody_450 ic_0 ?_
                                                                    refine s_iret B hQ hr dX6_runBody_451 rfl ?_
                                                                    exact ⟨rn, tp_, tc, by omega, (by rw [k1_42]; rfl), rfl⟩
                                                                  · by_cases k1_43 : b0 = 43
                                                                    · refine s_tableIn (off := 449) (tgt := 450) B dX6_runBody_1 (by rw [k1_43]; decide) (by rw [k1_43]; decide) (by rw [k1_43]; rfl) rfl ?_
                                                                      refine s_iconst B dX6_runBody_450 ic_0 ?_
                                                                      refine s_iret B hQ hr dX6_runBody_451 rfl ?_
                                                                      exact ⟨rn, tp_, tc, by omega, (by rw [k1_43]; rfl), rfl⟩
                                                                    · by_cases k1_44 : b0 = 44
                                                                      · refine s_tableIn (off := 449) (tgt := 450) B dX6_runBody_1 (by rw [k1_44]; decide) (by rw [k1_44]; decide) (by rw [k1_44]; rfl) rfl ?_
                                                                        refine s_iconst B dX6_runBody_450 ic_0 ?_
                                                                        refine s_iret B hQ hr dX6_runBody_451 rfl ?_
                                                                        exact ⟨rn, tp_, tc, by omega, (by rw [k1_44]; rfl), rfl⟩
                                                                      · by_cases k1_45 : b0 = 45
                                                                        · refine s_tableIn (off := 449) (tgt := 450) B dX6_runBody_1 (by rw [k1_45]; decide) (by rw [k1_45]; decide) (by rw [k1_45]; rfl) rfl ?_
                                                                          refine s_iconst B dX6_runBody_450 ic_0 ?_
                                                                          refine s_iret B hQ hr dX6_runBody_451 rfl ?_
                                                                          exact ⟨rn, tp_, tc, by omega, (by rw [k1_45]; rfl), rfl⟩
                                                                        · by_cases k1_46 : b0 = 46
                                                                          · refine s_tableIn (off := 449) (tgt := 450) B dX6_runBody_1 (by rw [k1_46]; decide) (by rw [k1_46]; decide) (by rw [k1_46]; rfl) rfl ?_
                                                                            refine s_iconst B dX6_runBody_450 ic_0 ?_
                                                                            refine s_iret B hQ hr dX6_runBody_451 rfl ?_
                                                                            exact ⟨rn, tp_, tc, by omega, (by rw [k1_46]; rfl), rfl⟩
                                                                          · by_cases k1_47 : b0 = 47
                                                                            · refine s_tableIn (off := 449) (tgt := 450) B dX6_runBody_1 (by rw [k1_47]; decide) (by rw [k1_47]; decide) (by rw [k1_47]; rfl) rfl ?_
                                                                              refine s_iconst B dX6_runBody_450 ic_0 ?_
                                                                              refine s_iret B hQ hr dX6_runBody_451 rfl ?_
                                                                              exact ⟨rn, tp_, tc, by omega, (by rw [k1_47]; rfl), rfl⟩
                                                                            · by_cases k1_48 : b0 = 48
                                                                              · refine s_tableIn (off := 449) (tgt := 450) B dX6_runBody_1 (by rw [k1_48]; decide) (by rw [k1_48]; decide) (by rw [k1_48]; rfl) rfl ?_
                                                                                refine s_iconst B dX6_runBody_450 ic_0 ?_
                                                                                refine s_iret B hQ hr dX6_runBody_451 rfl ?_
                                                                                exact ⟨rn, tp_, tc, by omega, (by rw [k1_48]; rfl), rfl⟩
                                                                              · by_cases k1_49 : b0 = 49
                                                                                · refine s_tableIn (off := 449) (tgt := 450) B dX6_runBody_1 (by rw [k1_49]; decide) (by rw [k1_49]; decide) (by rw [k1_49]; rfl) rfl ?_
                                                                                  refine s_iconst B dX6_runBody_450 ic_0 ?_
                                                                                  refine s_iret B hQ hr dX6_runBody_451 rfl ?_
                                                                                  exact ⟨rn, tp_, tc, by omega, (by rw [k1_49]; rfl), rfl⟩
                                                                                · by_cases k1_50 : b0 = 50
                                                                                  · refine s_tableIn (off := 371) (tgt := 372) B dX6_runBody_1 (by rw [k1_50]; decide) (by rw [k1_50]; decide) (by rw [k1_50]; rfl) rfl ?_
                                                                                    refine s_aload_n B dX6_runBody_372 rfl 0 rfl ?_
                                                                                    refine s_iconst B dX6_runBody_373 ic_2 ?_
                                                                                    refine s_getsN B hsc.2.2.2.1 hsc.2.2.2.2.2 fl_X6_51 dX6_runBody_374 (fun t374 hT374 => ?_)
                                                                                    refine s_iconst B dX6_runBody_377 ic_4 ?_
                                                                                    refine s_tiN B hT374 dX6_runBody_378 (by decide) (by decide) ?_
                                                                                    refine s_iload_n B dX6_runBody_379 rfl 2 rfl ?_
                                                                                    refine s_iconst B dX6_runBody_380 ic_2 ?_
                                                                                    refine s_iadd B dX6_runBody_381 ?_
                                                                                    refine s_iload_n B dX6_runBody_382 rfl 3 rfl ?_
                                                                                    refine s_callVi B hsc (hA rn tk tn ta tp_ tc 2 (tb_above 4) (x0 + 2) d (by omega) (by omega) (by omega)) (gw_V ml_X6_32 im_yX6_runAct se_yX6_runAct ini_RX6 co_yX6_runAct) hd_X6_runAct rfl rfl (by constructor <;> (show _ ≤ _) <;> simp only [rmX6_runAct, rmX6_runBody] <;> omega) [0, 1] [0, 1, 2, 3, 4] rfl rfl rfl (ci := 6) (q0 := 0) rfl rfl rfl rfl rfl (Nat.le_of_ble_eq_true rfl) dX6_runBody_383 (fun r_66 u_67 hpo => ?_)
                                                                                    obtain ⟨rn_68, tp__69, tc_70, hb_71, hv_72, rfl⟩ := hpo
                                                                                    refine s_ws (ws' := [(th 0, .inr (6, [.ref (th 1), .int (nI rn_68), .int tk, .int tn, .int ta, .int tp__69])), (th 1, .inl (g 0, 30, .inl tc_70))]) rfl ?_
                                                                                    refine s_iconst B dX6_runBody_386 ic_1 ?_
                                                                                    refine s_ixor B dX6_runBody_387 ?_
                                                                                    refine s_iret B hQ hr dX6_runBody_388 rfl ?_
                                                                                    exact ⟨rn_68, tp__69, tc_70, by omega, (by rw [k1_50, tb_50]; exact vRun_map (fun v => v ^^^ 1) hv_72), rfl⟩
                                                                                  · by_cases k1_51 : b0 = 51
                                                                                    · refine s_tableIn (off := 388) (tgt := 389) B dX6_runBody_1 (by rw [k1_51]; decide) (by rw [k1_51]; decide) (by rw [k1_51]; rfl) rfl ?_
                                                                                      refine s_aload_n B dX6_runBody_389 rfl 0 rfl ?_
                                                                                      refine s_iconst B dX6_runBody_390 ic_0 ?_
                                                                                      refine s_getsN B hsc.2.2.2.1 hsc.2.2.2.2.2 fl_X6_51 dX6_runBody_391 (fun t391 hT391 => ?_)
                                                                                      refine s_iconst B dX6_runBody_394 ic_4 ?_
                                                                                      refine s_tiN B hT391 dX6_runBody_395 (by decide) (by decide) ?_
                                                                                      refine s_iload_n B dX6_runBody_396 rfl 2 rfl ?_
                                                                                      refine s_iload_n B dX6_runBody_397 rfl 3 rfl ?_
                                                                                      refine s_callVi B hsc (hA rn tk tn ta tp_ tc 0 (tb_above 4) x0 d (by omega) (by omega) (by omega)) (gw_V ml_X6_32 im_yX6_runAct se_yX6_runAct ini_RX6 co_yX6_runAct) hd_X6_runAct rfl rfl (by constructor <;> (show _ ≤ _) <;> simp only [rmX6_runAct, rmX6_runBody] <;> omega) [0, 1] [0, 1, 2, 3, 4] rfl rfl rfl (ci := 6) (q0 := 0) rfl rfl rfl rfl rfl (Nat.le_of_ble_eq_true rfl) dX6_runBody_398 (fun r_73 u_74 hpo => ?_)
                                                                                      obtain ⟨rn_75, tp__76, tc_77, hb_78, hv_79, rfl⟩ := hpo
                                                                                      refine s_ws (ws' := [(th 0, .inr (6, [.ref (th 1), .int (nI rn_75), .int tk, .int tn, .int ta, .int tp__76])), (th 1, .inl (g 0, 30, .inl tc_77))]) rfl ?_
                                                                                      refine s_aload_n B dX6_runBody_401 rfl 0 rfl ?_
                                                                                      refine s_get (T := TX6) B inX6 0 rfl rfl 3 (Nat.le_of_ble_eq_true rfl) fl_X6_22 rfl rfl dX6_runBody_402 ?_
                                                                                      refine s_isub B dX6_runBody_405 ?_
                                                                                      refine s_iret B hQ hr dX6_runBody_406 rfl ?_
                                                                                      exact ⟨rn_75, tp__76, tc_77, by omega, (by rw [k1_51, tb_51]; exact vRun_map (fun v => v - tn) hv_79), rfl⟩
                                                                                    · by_cases k1_52 : b0 = 52
                                                                                      · refine s_tableIn (off := 449) (tgt := 450) B dX6_runBody_1 (by rw [k1_52]; decide) (by rw [k1_52]; decide) (by rw [k1_52]; rfl) rfl ?_
                                                                                        refine s_iconst B dX6_runBody_450 ic_0 ?_
                                                                                        refine s_iret B hQ hr dX6_runBody_451 rfl ?_
                                                                                        exact ⟨rn, tp_, tc, by omega, (by rw [k1_52]; rfl), rfl⟩
                                                                                      · by_cases k1_53 : b0 = 53
                                                                                        · refine s_tableIn (off := 449) (tgt := 450) B dX6_runBody_1 (by rw [k1_53]; decide) (by rw [k1_53]; decide) (by rw [k1_53]; rfl) rfl ?_
                                                                                          refine s_iconst B dX6_runBody_450 ic_0 ?_
                                                                                          refine s_iret B hQ hr dX6_runBody_451 rfl ?_
                                                                                          exact ⟨rn, tp_, tc, by omega, (by rw [k1_53]; rfl), rfl⟩
                                                                                        · by_cases k1_54 : b0 = 54
                                                                                          · refine s_tableIn (off := 449) (tgt := 450) B dX6_runBody_1 (by rw [k1_54]; decide) (by rw [k1_54]; decide) (by rw [k1_54]; rfl) rfl ?_
                                                                                            refine s_iconst B dX6_runBody_450 ic_0 ?_
                                                                                            refine s_iret B hQ hr dX6_runBody_451 rfl ?_
                                                                                            exact ⟨rn, tp_, tc, by omega, (by rw [k1_54]; rfl), rfl⟩
                                                                                          · by_cases k1_55 : b0 = 55
                                                                                            · refine s_tableIn (off := 449) (tgt := 450) B dX6_runBody_1 (by rw [k1_55]; decide) (by rw [k1_55]; decide) (by rw [k1_55]; rfl) rfl ?_
                                                                                              refine s_iconst B dX6_runBody_450 ic_0 ?_
                                                                                              refine s_iret B hQ hr dX6_runBody_451 rfl ?_
                                                                                              exact ⟨rn, tp_, tc, by omega, (by rw [k1_55]; rfl), rfl⟩
                                                                                            · by_cases k1_56 : b0 = 56
                                                                                              · refine s_tableIn (off := 449) (tgt := 450) B dX6_runBody_1 (by rw [k1_56]; decide) (by rw [k1_56]; decide) (by rw [k1_56]; rfl) rfl ?_
                                                                                                refine s_iconst B dX6_runBody_450 ic_0 ?_
                                                                                                refine s_iret B hQ hr dX6_runBody_451 rfl ?_
                                                                                                exact ⟨rn, tp_, tc, by omega, (by rw [k1_56]; rfl), rfl⟩
                                                                                              · by_cases k1_57 : b0 = 57
                                                                                                · refine s_tableIn (off := 449) (tgt := 450) B dX6_runBody_1 (by rw [k1_57]; decide) (by rw [k1_57]; decide) (by rw [k1_57]; rfl) rfl ?_
                                                                                                  refine s_iconst B dX6_runBody_450 ic_0 ?_
                                                                                                  refine s_iret B hQ hr dX6_runBody_451 rfl ?_
                                                                                                  exact ⟨rn, tp_, tc, by omega, (by rw [k1_57]; rfl), rfl⟩
                                                                                                · by_cases k1_58 : b0 = 58
                                                                                                  · refine s_tableIn (off := 449) (tgt := 450) B dX6_runBody_1 (by rw [k1_58]; decide) (by rw [k1_58]; decide) (by rw [k1_58]; rfl) rfl ?_
                                                                                                    refine s_iconst B dX6_runBody_450 ic_0 ?_
                                                                                                    refine s_iret B hQ hr dX6_runBody_451 rfl ?_
                                                                                                    exact ⟨rn, tp_, tc, by omega, (by rw [k1_58]; rfl), rfl⟩
                                                                                                  · by_cases k1_59 : b0 = 59
                                                                                                    · refine s_tableIn (off := 449) (tgt := 450) B dX6_runBody_1 (by rw [k1_59]; decide) (by rw [k1_59]; decide) (by rw [k1_59]; rfl) rfl ?_
                                                                                                      refine s_iconst B dX6_runBody_450 ic_0 ?_
                                                                                                      refine s_iret B hQ hr dX6_runBody_451 rfl ?_
                                                                                                      exact ⟨rn, tp_, tc, by omega, (by rw [k1_59]; rfl), rfl⟩
                                                                                                    · by_cases k1_60 : b0 = 60
                                                                                                      · refine s_tableIn (off := 406) (tgt := 407) B dX6_runBody_1 (by rw [k1_60]; decide) (by rw [k1_60]; decide) (by rw [k1_60]; rfl) rfl ?_
                                                                                                        refine s_aload_n B dX6_runBody_407 rfl 0 rfl ?_
                                                                                                        refine s_iconst B dX6_runBody_408 ic_3 ?_
                                                                                                        refine s_getsN B hsc.2.2.2.1 hsc.2.2.2.2.2 fl_X6_51 dX6_runBody_409 (fun t409 hT409 => ?_)
                                                                                                        refine s_iconst B dX6_runBody_412 ic_3 ?_
                                                                                                        refine s_tiN B hT409 dX6_runBody_413 (by decide) (by decide) ?_
                                                                                                        refine s_iload_n B dX6_runBody_414 rfl 2 rfl ?_
                                                                                                        refine s_iload_n B dX6_runBody_415 rfl 3 rfl ?_
                                                                                                        refine s_callVi B hsc (hA rn tk tn ta tp_ tc 3 (tb_above 3) x0 d (by omega) (by omega) (by omega)) (gw_V ml_X6_32 im_yX6_runAct se_yX6_runAct ini_RX6 co_yX6_runAct) hd_X6_runAct rfl rfl (by constructor <;> (show _ ≤ _) <;> simp only [rmX6_runAct, rmX6_runBody] <;> omega) [0, 1] [0, 1, 2, 3, 4] rfl rfl rfl (ci := 6) (q0 := 0) rfl rfl rfl rfl rfl (Nat.le_of_ble_eq_true rfl) dX6_runBody_416 (fun r_80 u_81 hpo => ?_)
                                                                                                        obtain ⟨rn_82, tp__83, tc_84, hb_85, hv_86, rfl⟩ := hpo
                                                                                                        refine s_ws (ws' := [(th 0, .inr (6, [.ref (th 1), .int (nI rn_82), .int tk, .int tn, .int ta, .int tp__83])), (th 1, .inl (g 0, 30, .inl tc_84))]) rfl ?_
                                                                                                        refine s_iconst B dX6_runBody_419 ic_2 ?_
                                                                                                        refine s_imul B dX6_runBody_420 ?_
                                                                                                        refine s_iret B hQ hr dX6_runBody_421 rfl ?_
                                                                                                        exact ⟨rn_82, tp__83, tc_84, by omega, (by rw [k1_60, tb_60]; exact vRun_map (fun v => v * 2) hv_86), rfl⟩
                                                                                                      · by_cases k1_61 : b0 = 61
                                                                                                        · refine s_tableIn (off := 421) (tgt := 422) B dX6_runBody_1 (by rw [k1_61]; decide) (by rw [k1_61]; decide) (by rw [k1_61]; rfl) rfl ?_
                                                                                                          refine s_aload_n B dX6_runBody_422 rfl 0 rfl ?_
                                                                                                          refine s_iconst B dX6_runBody_423 ic_2 ?_
                                                                                                          refine s_getsN B hsc.2.2.2.1 hsc.2.2.2.2.2 fl_X6_51 dX6_runBody_424 (fun t424 hT424 => ?_)
                                                                                                          refine s_iconst B dX6_runBody_427 ic_3 ?_
                                                                                                          refine s_tiN B hT424 dX6_runBody_428 (by decide) (by decide) ?_
                                                                                                          refine s_iload_n B dX6_runBody_429 rfl 2 rfl ?_
                                                                                                          refine s_iload_n B dX6_runBody_430 rfl 3 rfl ?_
                                                                                                          refine s_callVi B hsc (hA rn tk tn ta tp_ tc 2 (tb_above 3) x0 d (by omega) (by omega) (by omega)) (gw_V ml_X6_32 im_yX6_runAct se_yX6_runAct ini_RX6 co_yX6_runAct) hd_X6_runAct rfl rfl (by constructor <;> (show _ ≤ _) <;> simp only [rmX6_runAct, rmX6_runBody] <;> omega) [0, 1] [0, 1, 2, 3, 4] rfl rfl rfl (ci := 6) (q0 := 0) rfl rfl rfl rfl rfl (Nat.le_of_ble_eq_true rfl) dX6_runBody_431 (fun r_87 u_88 hpo => ?_)
                                                                                                          obtain ⟨rn_89, tp__90, tc_91, hb_92, hv_93, rfl⟩ := hpo
                                                                                                          refine s_ws (ws' := [(th 0, .inr (6, [.ref (th 1), .int (nI rn_89), .int tk, .int tn, .int ta, .int tp__90])), (th 1, .inl (g 0, 30, .inl tc_91))]) rfl ?_
                                                                                                          refine s_aload_n B dX6_runBody_434 rfl 0 rfl ?_
                                                                                                          refine s_iconst B dX6_runBody_435 ic_0 ?_
                                                                                                          refine s_aload_n B dX6_runBody_436 rfl 0 rfl ?_
                                                                                                          refine s_get (T := TX6) B inX6 0 rfl rfl 2 (Nat.le_of_ble_eq_true rfl) fl_X6_19 rfl rfl dX6_runBody_437 ?_
                                                                                                          refine s_aload_n B dX6_runBody_440 rfl 0 rfl ?_
                                                                                                          refine s_get (T := TX6) B inX6 0 rfl rfl 4 (Nat.le_of_ble_eq_true rfl) fl_X6_25 rfl rfl dX6_runBody_441 ?_
                                                                                                          refine s_iload_n B dX6_runBody_444 rfl 3 rfl ?_
                                                                                                          refine s_callVi B hsc (hA rn_89 tk tn ta tp__90 tc_91 0 tk ta d (by omega) (by omega) (by omega)) (gw_V ml_X6_32 im_yX6_runAct se_yX6_runAct ini_RX6 co_yX6_runAct) hd_X6_runAct rfl rfl (by constructor <;> (show _ ≤ _) <;> simp only [rmX6_runAct, rmX6_runBody] <;> omega) [0, 1] [0, 1, 2, 3, 4] rfl rfl rfl (ci := 6) (q0 := 0) rfl rfl rfl rfl rfl (Nat.le_of_ble_eq_true rfl) dX6_runBody_445 (fun r_94 u_95 hpo => ?_)
                                                                                                          obtain ⟨rn_96, tp__97, tc_98, hb_99, hv_100, rfl⟩ := hpo
                                                                                                          refine s_ws (ws' := [(th 0, .inr (6, [.ref (th 1), .int (nI rn_96), .int tk, .int tn, .int ta, .int tp__97])), (th 1, .inl (g 0, 30, .inl tc_98))]) rfl ?_
                                                                                                          refine s_iadd B dX6_runBody_448 ?_
                                                                                                          refine s_iret B hQ hr dX6_runBody_449 rfl ?_
                                                                                                          exact ⟨rn_96, tp__97, tc_98, by omega, (by rw [k1_61, tb_61]; exact vRun_add hv_93 hv_100), rfl⟩
                                                                                                        · refine s_tableOut (tgt := 450) B dX6_runBody_1 (by have q0 := lv_neT k1_10 (show (10 : Int32).toInt = 10 from by decide); have q1 := lv_neT k1_11 (show (11 : Int32).toInt = 11 from by decide); have q2 := lv_neT k1_12 (show (12 : Int32).toInt = 12 from by decide); have q3 := lv_neT k1_13 (show (13 : Int32).toInt = 13 from by decide); have q4 := lv_neT k1_14 (show (14 : Int32).toInt = 14 from by decide); have q5 := lv_neT k1_15 (show (15 : Int32).toInt = 15 from by decide); have q6 := lv_neT k1_16 (show (16 : Int32).toInt = 16 from by decide); have q7 := lv_neT k1_17 (show (17 : Int32).toInt = 17 from by decide); have q8 := lv_neT k1_18 (show (18 : Int32).toInt = 18 from by decide); have q9 := lv_neT k1_19 (show (19 : Int32).toInt = 19 from by decide); have q10 := lv_neT k1_20 (show (20 : Int32).toInt = 20 from by decide); have q11 := lv_neT k1_21 (show (21 : Int32).toInt = 21 from by decide); have q12 := lv_neT k1_22 (show (22 : Int32).toInt = 22 from by decide); have q13 := lv_neT k1_23 (show (23 : Int32).toInt = 23 from by decide); have q14 := lv_neT k1_24 (show (24 : Int32).toInt = 24 from by decide); have q15 := lv_neT k1_25 (show (25 : Int32).toInt = 25 from by decide); have q16 := lv_neT k1_26 (show (26 : Int32).toInt = 26 from by decide); have q17 := lv_neT k1_27 (show (27 : Int32).toInt = 27 from by decide); have q18 := lv_neT k1_28 (show (28 : Int32).toInt = 28 from by decide); have q19 := lv_neT k1_29 (show (29 : Int32).toInt = 29 from by decide); have q20 := lv_neT k1_30 (show (30 : Int32).toInt = 30 from by decide); have q21 := lv_neT k1_31 (show (31 : Int32).toInt = 31 from by decide); have q22 := lv_neT k1_32 (show (32 : Int32).toInt = 32 from by decide); have q23 := lv_neT k1_33 (show (33 : Int32).toInt = 33 from by decide); have q24 := lv_neT k1_34 (show (34 : Int32).toInt = 34 from by decide); have q25 := lv_neT k1_35 (show (35 : Int32).toInt = 35 from by decide); have q26 := lv_neT k1_36 (show (36 : Int32).toInt = 36 from by decide); have q27 := lv_neT k1_37 (show (37 : Int32).toInt = 37 from by decide); have q28 := lv_neT k1_38 (show (38 : Int32).toInt = 38 from by decide); have q29 := lv_neT k1_39 (show (39 : Int32).toInt = 39 from by decide); have q30 := lv_neT k1_40 (show (40 : Int32).toInt = 40 from by decide); have q31 := lv_neT k1_41 (show (41 : Int32).toInt = 41 from by decide); have q32 := lv_neT k1_42 (show (42 : Int32).toInt = 42 from by decide); have q33 := lv_neT k1_43 (show (43 : Int32).toInt = 43 from by decide); have q34 := lv_neT k1_44 (show (44 : Int32).toInt = 44 from by decide); have q35 := lv_neT k1_45 (show (45 : Int32).toInt = 45 from by decide); have q36 := lv_neT k1_46 (show (46 : Int32).toInt = 46 from by decide); have q37 := lv_neT k1_47 (show (47 : Int32).toInt = 47 from by decide); have q38 := lv_neT k1_48 (show (48 : Int32).toInt = 48 from by decide); have q39 := lv_neT k1_49 (show (49 : Int32).toInt = 49 from by decide); have q40 := lv_neT k1_50 (show (50 : Int32).toInt = 50 from by decide); have q41 := lv_neT k1_51 (show (51 : Int32).toInt = 51 from by decide); have q42 := lv_neT k1_52 (show (52 : Int32).toInt = 52 from by decide); have q43 := lv_neT k1_53 (show (53 : Int32).toInt = 53 from by decide); have q44 := lv_neT k1_54 (show (54 : Int32).toInt = 54 from by decide); have q45 := lv_neT k1_55 (show (55 : Int32).toInt = 55 from by decide); have q46 := lv_neT k1_56 (show (56 : Int32).toInt = 56 from by decide); have q47 := lv_neT k1_57 (show (57 : Int32).toInt = 57 from by decide); have q48 := lv_neT k1_58 (show (58 : Int32).toInt = 58 from by decide); have q49 := lv_neT k1_59 (show (59 : Int32).toInt = 59 from by decide); have q50 := lv_neT k1_60 (show (60 : Int32).toInt = 60 from by decide); have q51 := lv_neT k1_61 (show (61 : Int32).toInt = 61 from by decide); omega) rfl ?_
                                                                                                          refine s_iconst B dX6_runBody_450 ic_0 ?_
                                                                                                          refine s_iret B hQ hr dX6_runBody_451 rfl ?_
                                                                                                          exact ⟨rn, tp_, tc, by omega, (by rw [tb_no (by assumption) (by assumption) (by assumption) (by assumption) (by assumption) (by assumption) (by assumption) (by assumption) (by assumption) (by assumption) (by assumption) (by assumption) (by assumption)]; rfl), rfl⟩
set_option maxHeartbeats 4000000 in
set_option maxRecDepth 100000 in
theorem c_X6_runActS (l : Launch) (D : va_G) (g : Nat → ClassId) (th : Nat → Nat) (rn : Nat) (tk : Int32) (tn : Int32) (ta : Int32) (tp_ : Int32) (tc : Nat → Int32) (a0 : Int32) (f0 : Int32) (x0 : Int32) (d : Nat) (j : Nat) (hB : ∀ jj, j = jj + 1 → ∀ (rn : Nat) (tk : Int32) (tn : Int32) (ta : Int32) (tp_ : Int32) (tc : Nat → Int32) (b0 x0 : Int32) (d : Nat), rn ≤ 30 → 31 ≤ d + jj → d ≤ 31 → Ci l yX6_runBody (WW yX6_runBody cX6_runBody 4 (some FieldType.int)) (rmX6_runBody jj) D vwCl (TY g) [.ref (th 0), .int b0, .int x0, .int (nI d)] [(th 0, .inr (6, [.ref (th 1), .int (nI rn), .int tk, .int tn, .int ta, .int tp_])), (th 1, .inl (g 0, 30, .inl tc))] (fun r u => ∃ (rn' : Nat) (tp_' : Int32) (tc' : Nat → Int32), (rn' ≤ 30) ∧ (((r, tp_', ((tc', rn') : MT)) : Int32 × Int32 × MT) = vRun (tBody (tAct tk tn ta (31 - d)) tk tn ta b0 x0 tp_) ((tc, rn) : MT)) ∧ u = [(th 0, .inr (6, [.ref (th 1), .int (nI rn'), .int tk, .int tn, .int ta, .int tp_'])), (th 1, .inl (g 0, 30, .inl tc'))]))  (hb_rn : rn ≤ 30) (hpre0 : 31 ≤ d + j) (hpre1 : d ≤ 31) : Ci l yX6_runAct (WW yX6_runAct cX6_runAct 6 (some FieldType.int)) (rmX6_runAct j) D vwCl (TY g) [.ref (th 0), .int a0, .int f0, .int x0, .int (nI d)] [(th 0, .inr (6, [.ref (th 1), .int (nI rn), .int tk, .int tn, .int ta, .int tp_])), (th 1, .inl (g 0, 30, .inl tc))] (fun r u => ∃ (rn' : Nat) (tp_' : Int32) (tc' : Nat → Int32), (rn' ≤ 30) ∧ (((r, tp_', ((tc', rn') : MT)) : Int32 × Int32 × MT) = vRun (tAct tk tn ta (31 - d) a0 f0 x0 tp_) ((tc, rn) : MT)) ∧ u = [(th 0, .inr (6, [.ref (th 1), .int (nI rn'), .int tk, .int tn, .int ta, .int tp_'])), (th 1, .inl (g 0, 30, .inl tc'))]) := by
  refine ci_in (by decide) (Nat.le_of_ble_eq_true rfl) (a0 := [th 0, th 1]) rfl (fun p e s m args below meth c A Q hQ B hr hsc => ?_)
  have M53 : ∀ (rn_3 : Nat) (tc_5 : Nat → Int32), (rn ≤ 30) → (31 ≤ d + j) → (d ≤ 31) → (tp_ = 0) → (d ≤ 30) → (rn_3 ≤ 30) → (((tc_5, rn_3) : MT) = tPush (mBW a0 3 f0) ((tc, rn) : MT)) → Sx p l e (rmX6_runAct j) s m args below meth c D vwCl A 6 Q 53 [(0, .ref (th 0)), (3, .int x0), (4, .int (nI d)), (5, .int (mBW a0 3 f0))] [] [(th 0, .inr (6, [.ref (th 1), .int (nI rn_3), .int tk, .int tn, .int ta, .int tp_])), (th 1, .inl (g 0, 30, .inl tc_5))] := by
    intro rn_3 tc_5 hb_rn hpre0 hpre1 h4 h11 h_4 hP_6
    refine s_aload_n B dX6_runAct_53 rfl 0 rfl ?_
    refine s_iload B dX6_runAct_54 3 rfl ?_
    refine s_iload_n B dX6_runAct_56 rfl 1 rfl ?_
    refine s_iload B dX6_runAct_57 2 rfl ?_
    refine s_iconst B dX6_runAct_59 ic_1 ?_
    refine s_iaddE B dX6_runAct_60 (nI_add d 1) ?_
    obtain ⟨jj, rfl⟩ : ∃ jj, j = jj + 1 := ⟨j - 1, by omega⟩
    refine s_callVi B hsc (hB jj rfl rn_3 tk tn ta tp_ tc_5 (mBW a0 3 f0) x0 (d + 1) (by omega) (by omega) (by omega)) (gw_V ml_X6_40 im_yX6_runBody se_yX6_runBody ini_RX6 co_yX6_runBody) hd_X6_runBody rfl rfl (by constructor <;> (show _ ≤ _) <;> simp only [rmX6_runAct, rmX6_runBody] <;> omega) [0, 1] [0, 1, 2, 3, 4] rfl rfl rfl (ci := 6) (q0 := 0) rfl rfl rfl rfl rfl (Nat.le_of_ble_eq_true rfl) dX6_runAct_61 (fun r_7 u_8 hpo => ?_)
    obtain ⟨rn_9, tp__10, tc_11, hb_12, hv_13, rfl⟩ := hpo
    refine s_ws (ws' := [(th 0, .inr (6, [.ref (th 1), .int (nI rn_9), .int tk, .int tn, .int ta, .int tp__10])), (th 1, .inl (g 0, 30, .inl tc_11))]) rfl ?_
    refine s_iret B hQ hr dX6_runAct_64 rfl ?_
    exact ⟨rn_9, tp__10, tc_11, by omega, (tAct_s h11 h4 hP_6 hv_13), rfl⟩
  refine s_aload_n B dX6_runAct_0 rfl 0 rfl ?_
  refine s_get (T := TX6) B inX6 0 rfl rfl 5 (Nat.le_of_ble_eq_true rfl) fl_X6_28 rfl rfl dX6_runAct_1 ?_
  refine s_if_ne (tgt := 14) B dX6_runAct_4 rfl (fun h4 => ?_) (fun h4 => ?_)
  · refine s_iconst B dX6_runAct_14 ic_0 ?_
    refine s_iret B hQ hr dX6_runAct_15 rfl ?_
    exact ⟨rn, tp_, tc, by omega, (tAct_p h4 _), rfl⟩
  · refine s_iload B dX6_runAct_7 4 rfl ?_
    refine s_bipush B dX6_runAct_9 bp_30 ?_
    refine s_icmp_le (tgt := 16) B dX6_runAct_11 rfl (fun h11 => ?_) (fun h11 => ?_)
    · replace h11 : d ≤ 30 := (nI_leI (a := d) (b := 30) (by omega) (by omega)).mp h11
      refine s_iload_n B dX6_runAct_16 rfl 1 rfl ?_
      refine s_iload_n B dX6_runAct_17 rfl 2 rfl ?_
      refine s_callSi B hsc (c_X6_bodyOfW l D g a0 f0) (gw_S ml_X6_36 sm_yX6_bodyOf ini_RX6 co_yX6_bodyOf) hd_X6_bodyOf rfl rfl (by constructor <;> (show _ ≤ _) <;> simp only [rmX6_runAct, rmX6_bodyOf] <;> omega) [] [0, 1, 2, 3, 4] rfl rfl rfl rfl rfl (Nat.le_of_ble_eq_true rfl) dX6_runAct_18 (fun r_1 u_2 hpo => ?_)
      obtain ⟨rfl, rfl⟩ := hpo
      refine s_st (st' := [.int (mBW a0 3 f0)]) rfl ?_
      refine s_ws (ws' := [(th 0, .inr (6, [.ref (th 1), .int (nI rn), .int tk, .int tn, .int ta, .int tp_])), (th 1, .inl (g 0, 30, .inl tc))]) rfl ?_
      refine s_istore (lv' := [(5, _), (0, _), (1, _), (2, _), (3, _), (4, _)]) B dX6_runAct_21 (Nat.le_of_ble_eq_true rfl) rfl ?_
      refine s_aload_n B dX6_runAct_23 rfl 1 rfl ?_
      refine s_get (T := TX6) B inX6 0 rfl rfl 1 (Nat.le_of_ble_eq_true rfl) fl_X6_15 rfl rfl dX6_runAct_24 ?_
      refine s_bipush B dX6_runAct_27 bp_30 ?_
      refine s_icmp_ge (tgt := 53) B dX6_runAct_29 rfl (fun h29 => ?_) (fun h29 => ?_)
      · replace h29 : 30 ≤ rn := (nI_leI (a := 30) (b := rn) (by omega) (by omega)).mp h29
        refine s_lv (lv' := [(0, _), (3, _), (4, _), (5, _)]) [1, 4, 5, 0] rfl ?_
        exact M53 rn tc hb_rn hpre0 hpre1 h4 h11 (by omega) (tPush_n h29)
      · replace h29 : ¬ 30 ≤ rn := fun hh => h29 ((nI_leI (a := 30) (b := rn) (by omega) (by omega)).mpr hh)
        refine s_aload_n B dX6_runAct_32 rfl 1 rfl ?_
        refine s_get (T := TX6) B inX6 0 rfl rfl 0 (Nat.le_of_ble_eq_true rfl) fl_X6_11 rfl rfl dX6_runAct_33 ?_
        refine s_aload_n B dX6_runAct_36 rfl 1 rfl ?_
        refine s_get (T := TX6) B inX6 0 rfl rfl 1 (Nat.le_of_ble_eq_true rfl) fl_X6_15 rfl rfl dX6_runAct_37 ?_
        refine s_iload B dX6_runAct_40 0 rfl ?_
        refine s_iastN (ws' := [_, _]) B 1 0 rfl rfl rfl dX6_runAct_42 (by omega) (by decide) ?_
        refine s_aload_n B dX6_runAct_43 rfl 1 rfl ?_
        refine s_dup B dX6_runAct_44 rfl ?_
        refine s_get (T := TX6) B inX6 0 rfl rfl 1 (Nat.le_of_ble_eq_true rfl) fl_X6_15 rfl rfl dX6_runAct_45 ?_
        refine s_iconst B dX6_runAct_48 ic_1 ?_
        refine s_iaddE B dX6_runAct_49 (nI_add rn 1) ?_
        refine s_put (T := TX6) (ws' := [_, _]) B inX6 tyX6_ok nmX6 0 rfl rfl 1 (Nat.le_of_ble_eq_true rfl) fl_X6_15 rfl rfl rfl rfl (Nat.le_of_ble_eq_true rfl) rfl dX6_runAct_50 ?_
        refine s_lv (lv' := [(0, _), (3, _), (4, _), (5, _)]) [1, 4, 5, 0] rfl ?_
        exact M53 (rn + 1) (upd tc rn (mBW a0 3 f0)) hb_rn hpre0 hpre1 h4 h11 (by omega) (tPush_y h29)
    · replace h11 : ¬ d ≤ 30 := fun hh => h11 ((nI_leI (a := d) (b := 30) (by omega) (by omega)).mpr hh)
      refine s_iconst B dX6_runAct_14 ic_0 ?_
      refine s_iret B hQ hr dX6_runAct_15 rfl ?_
      exact ⟨rn, tp_, tc, by omega, (tAct_0 h11 (by omega)), rfl⟩
theorem c_X6_runAct_all (l : Launch) (D : va_G) (g : Nat → ClassId) (th : Nat → Nat) : ∀ j : Nat, ∀ (rn : Nat) (tk : Int32) (tn : Int32) (ta : Int32) (tp_ : Int32) (tc : Nat → Int32) (a0 f0 x0 : Int32) (d : Nat), rn ≤ 30 → 31 ≤ d + j → d ≤ 31 → Ci l yX6_runAct (WW yX6_runAct cX6_runAct 6 (some FieldType.int)) (rmX6_runAct j) D vwCl (TY g) [.ref (th 0), .int a0, .int f0, .int x0, .int (nI d)] [(th 0, .inr (6, [.ref (th 1), .int (nI rn), .int tk, .int tn, .int ta, .int tp_])), (th 1, .inl (g 0, 30, .inl tc))] (fun r u => ∃ (rn' : Nat) (tp_' : Int32) (tc' : Nat → Int32), (rn' ≤ 30) ∧ (((r, tp_', ((tc', rn') : MT)) : Int32 × Int32 × MT) = vRun (tAct tk tn ta (31 - d) a0 f0 x0 tp_) ((tc, rn) : MT)) ∧ u = [(th 0, .inr (6, [.ref (th 1), .int (nI rn'), .int tk, .int tn, .int ta, .int tp_'])), (th 1, .inl (g 0, 30, .inl tc'))]) := by
  intro j
  induction j with
  | zero => exact fun rn tk tn ta tp_ tc a0 f0 x0 d h1 h2 h3 => c_X6_runActS l D g th rn tk tn ta tp_ tc a0 f0 x0 d 0 (fun jj h => absurd h (by omega)) h1 h2 h3
  | succ j ih => exact fun rn tk tn ta tp_ tc a0 f0 x0 d h1 h2 h3 => c_X6_runActS l D g th rn tk tn ta tp_ tc a0 f0 x0 d (j + 1) (fun jj h => by
      have e : jj = j := by omega
      subst e
      exact fun rn tk tn ta tp_ tc b0 x0 d h1 h2 h3 => c_X6_runBodyS l D g th rn tk tn ta tp_ tc b0 x0 d jj ih h1 h2 h3) h1 h2 h3
def rmX6_answerOf : Room := { frames := 67, cells := 0, slots := 0, locals := 1613 }
theorem hd_X6_answerOf : yX6_answerOf.cls = RX6 ∧ yX6_answerOf.cls ≠ "java/lang/invoke/MethodHandle" ∧ yX6_answerOf.cls ≠ "java/lang/invoke/VarHandle" ∧ (parseMethodDescriptor yX6_answerOf.desc).map (fun d => d.parameters.length) = some 5 := by decide +kernel
set_option maxHeartbeats 4000000 in
set_option maxRecDepth 100000 in
theorem c_X6_answerOf (l : Launch) (D : va_G) (g : Nat → ClassId) (th : Nat → Nat) (rn : Nat) (tk : Int32) (tn : Int32) (ta : Int32) (tp_ : Int32) (tc : Nat → Int32) (k0 : Int32) (n0 : Int32) (a0 : Int32) (c0 : Int32) (x0 : Int32)  (hb_rn : rn ≤ 30) : Ci l yX6_answerOf (WW yX6_answerOf cX6_answerOf 7 (some FieldType.int)) rmX6_answerOf D vwCl (TY g) [.ref (th 0), .int k0, .int n0, .int a0, .int c0, .int x0] [(th 0, .inr (6, [.ref (th 1), .int (nI rn), .int tk, .int tn, .int ta, .int tp_])), (th 1, .inl (g 0, 30, .inl tc))] (fun r u => ∃ (rn' : Nat) (tk' : Int32) (tn' : Int32) (ta' : Int32) (tp_' : Int32) (tc' : Nat → Int32), (rn' ≤ 30) ∧ (((r, ((tc', rn') : MT)) : Int32 × MT) = (vAns (tAct k0 n0 a0 31 c0 k0 x0 tp_), tPs (tAct k0 n0 a0 31 c0 k0 x0 tp_).2.2 ((tc, rn) : MT))) ∧ u = [(th 0, .inr (6, [.ref (th 1), .int (nI rn'), .int tk', .int tn', .int ta', .int tp_'])), (th 1, .inl (g 0, 30, .inl tc'))]) := by
  refine ci_in (by decide) (Nat.le_of_ble_eq_true rfl) (a0 := [th 0, th 1]) rfl (fun p e s m args below meth c A Q hQ B hr hsc => ?_)
  refine s_aload_n B dX6_answerOf_0 rfl 0 rfl ?_
  refine s_iload_n B dX6_answerOf_1 rfl 1 rfl ?_
  refine s_put (T := TX6) (ws' := [_, _]) B inX6 tyX6_ok nmX6 0 rfl rfl 2 (Nat.le_of_ble_eq_true rfl) fl_X6_19 rfl rfl rfl rfl (Nat.le_of_ble_eq_true rfl) rfl dX6_answerOf_2 ?_
  refine s_aload_n B dX6_answerOf_5 rfl 0 rfl ?_
  refine s_iload_n B dX6_answerOf_6 rfl 2 rfl ?_
  refine s_put (T := TX6) (ws' := [_, _]) B inX6 tyX6_ok nmX6 0 rfl rfl 3 (Nat.le_of_ble_eq_true rfl) fl_X6_22 rfl rfl rfl rfl (Nat.le_of_ble_eq_true rfl) rfl dX6_answerOf_7 ?_
  refine s_aload_n B dX6_answerOf_10 rfl 0 rfl ?_
  refine s_iload_n B dX6_answerOf_11 rfl 3 rfl ?_
  refine s_put (T := TX6) (ws' := [_, _]) B inX6 tyX6_ok nmX6 0 rfl rfl 4 (Nat.le_of_ble_eq_true rfl) fl_X6_25 rfl rfl rfl rfl (Nat.le_of_ble_eq_true rfl) rfl dX6_answerOf_12 ?_
  refine s_aload_n B dX6_answerOf_15 rfl 0 rfl ?_
  refine s_iload B dX6_answerOf_16 4 rfl ?_
  refine s_aload_n B dX6_answerOf_18 rfl 0 rfl ?_
  refine s_get (T := TX6) B inX6 0 rfl rfl 2 (Nat.le_of_ble_eq_true rfl) fl_X6_19 rfl rfl dX6_answerOf_19 ?_
  refine s_iload B dX6_answerOf_22 5 rfl ?_
  refine s_iconst B dX6_answerOf_24 ic_0 ?_
  refine s_callVi B hsc ((c_X6_runAct_all l D g th 31) rn k0 n0 a0 tp_ tc c0 k0 x0 0 (by omega) (by omega) (by omega)) (gw_V ml_X6_32 im_yX6_runAct se_yX6_runAct ini_RX6 co_yX6_runAct) hd_X6_runAct rfl rfl ⟨(Nat.le_of_ble_eq_true rfl), (Nat.le_of_ble_eq_true rfl)⟩ [0, 1] [0, 1, 2, 3, 4] rfl rfl rfl (ci := 6) (q0 := 0) rfl rfl rfl rfl rfl (Nat.le_of_ble_eq_true rfl) dX6_answerOf_25 (fun r_1 u_2 hpo => ?_)
  obtain ⟨rn_3, tp__4, tc_5, hb_6, hv_7, rfl⟩ := hpo
  refine s_ws (ws' := [(th 0, .inr (6, [.ref (th 1), .int (nI rn_3), .int k0, .int n0, .int a0, .int tp__4])), (th 1, .inl (g 0, 30, .inl tc_5))]) rfl ?_
  refine s_istore (lv' := [(6, _), (0, _), (1, _), (2, _), (3, _), (4, _), (5, _)]) B dX6_answerOf_28 (Nat.le_of_ble_eq_true rfl) rfl ?_
  refine s_aload_n B dX6_answerOf_30 rfl 1 rfl ?_
  refine s_get (T := TX6) B inX6 0 rfl rfl 5 (Nat.le_of_ble_eq_true rfl) fl_X6_28 rfl rfl dX6_answerOf_31 ?_
  refine s_if_eq (tgt := 42) B dX6_answerOf_34 rfl (fun h34 => ?_) (fun h34 => ?_)
  · refine s_iload B dX6_answerOf_42 0 rfl ?_
    refine s_iret B hQ hr dX6_answerOf_44 rfl ?_
    exact ⟨rn_3, k0, n0, a0, tp__4, tc_5, by omega, (vAns_n hv_7 (by assumption)), rfl⟩
  · refine s_bipush B dX6_answerOf_37 bp_m15 ?_
    refine s_goto (tgt := 44) B dX6_answerOf_39 rfl ?_
    refine s_iret B hQ hr dX6_answerOf_44 rfl ?_
    exact ⟨rn_3, k0, n0, a0, tp__4, tc_5, by omega, (vAns_y hv_7 (by assumption)), rfl⟩
