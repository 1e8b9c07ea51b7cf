theorem le40_of {x : Int32} (h0 : ¬ x < 0) (h1 : ¬ 40 < x) : le40 x := nat_le (N := 40) h0 h1 (by decide)
theorem tok_c {t : Nat} {T : Nat → Int32} {a bg te : Nat} {so vl : Int32} {wd : Int64} (h : TC t T bg te so wd vl) (h1 : a ≤ bg) (h2 : bg ≤ te) (h3 : te ≤ t) : a ≤ bg ∧ bg ≤ te ∧ te ≤ t ∧ (so = 0 ∨ bg < te) := by
  refine ⟨h1, h2, h3, ?_⟩
  by_cases e : bg < t
  · exact Or.inr (by rw [h.1]; exact mTe_gt e)
  · refine Or.inl ?_
    rw [h.2.1]
    exact mSrt_0 (by rw [mByte_ge e]; decide)
def rmX9_byteAt : Room := { frames := 0, cells := 0, slots := 0, locals := 0 }
theorem hd_X9_byteAt : yX9_byteAt.cls = RX9 ∧ yX9_byteAt.cls ≠ "java/lang/invoke/MethodHandle" ∧ yX9_byteAt.cls ≠ "java/lang/invoke/VarHandle" ∧ (parseMethodDescriptor yX9_byteAt.desc).map (fun d => d.parameters.length) = some 1 := by decide +kernel
set_option maxHeartbeats 4000000 in
set_option maxRecDepth 100000 in
theorem c_X9_byteAt (l : Launch) (D : va_G) (g : Nat → ClassId) (b : Nat → Nat) (I : Nat → Int32) (W : Int64) (n p0 t q mm bd : Nat) (a_tape : Nat → Int32) (k1 : Nat) (hn : n ≤ 8) (hp : p0 = 0 ∨ p0 = 25) (ht : t ≤ 240) (hq0 : q ≤ 20) (hmm : mm ≤ 20) (hbd : bd ≤ 30) (hpre0 : k1 ≤ 300) : Ci l yX9_byteAt (WW yX9_byteAt cX9_byteAt 2 (some FieldType.int)) rmX9_byteAt D vwCl (TY g) [.ref (b 0), .int (nI k1)] [(b 0, .inr (9, [.int (nI n), .ref (b 1), .ref (b 2), .int (nI p0), .ref (b 3), .ref (b 4), .ref (b 5), .ref (b 6), .ref (b 7), .ref (b 8), .int (I 10), .ref (b 9), .int (nI t), .int (I 13), .int (I 14), .int (I 15), .long W, .int (I 17), .int (I 18), .int (I 19), .int (I 20), .ref (b 10), .ref (b 11), .ref (b 12), .ref (b 13), .ref (b 14), .ref (b 15), .int (nI q), .int (nI mm), .ref (b 16), .ref (b 17), .ref (b 18), .ref (b 19), .ref (b 20), .ref (b 21), .int (I 35), .int (I 36), .int (I 37), .ref (b 22), .int (nI bd), .int (I 40), .int (I 41), .ref (b 23), .int (I 43), .ref (b 24)])), (b 9, .inl (g 0, 240, .inl a_tape))] (fun r u => r = mByte t a_tape k1 ∧ u = [(b 0, .inr (9, [.int (nI n), .ref (b 1), .ref (b 2), .int (nI p0), .ref (b 3), .ref (b 4), .ref (b 5), .ref (b 6), .ref (b 7), .ref (b 8), .int (I 10), .ref (b 9), .int (nI t), .int (I 13), .int (I 14), .int (I 15), .long W, .int (I 17), .int (I 18), .int (I 19), .int (I 20), .ref (b 10), .ref (b 11), .ref (b 12), .ref (b 13), .ref (b 14), .ref (b 15), .int (nI q), .int (nI mm), .ref (b 16), .ref (b 17), .ref (b 18), .ref (b 19), .ref (b 20), .ref (b 21), .int (I 35), .int (I 36), .int (I 37), .ref (b 22), .int (nI bd), .int (I 40), .int (I 41), .ref (b 23), .int (I 43), .ref (b 24)])), (b 9, .inl (g 0, 240, .inl a_tape))]) := by
  refine ci_in (by decide) (Nat.le_of_ble_eq_true rfl) (a0 := [b 0, b 9]) rfl (fun p e s m args below meth c A Q hQ B hr hsc => ?_)
  refine s_iload_n B dX9_byteAt_0 rfl 1 rfl ?_
  refine s_aload_n B dX9_byteAt_1 rfl 0 rfl ?_
  refine s_get (T := TX9) B inX9 0 rfl rfl 12 (Nat.le_of_ble_eq_true rfl) fl_X9_94 rfl rfl dX9_byteAt_2 ?_
  refine s_icmp_ge (tgt := 17) B dX9_byteAt_5 rfl (fun h5 => ?_) (fun h5 => ?_)
  · replace h5 : t ≤ k1 := (nI_leI (a := t) (b := k1) (by omega) (by omega)).mp h5
    refine s_iconst B dX9_byteAt_17 ic_m1 ?_
    refine s_iret B hQ hr dX9_byteAt_18 rfl ?_
    exact ⟨by unfold mByte; first | exact (if_pos (by assumption)).symm | exact (if_neg (by omega)).symm | grind, rfl⟩
  · replace h5 : ¬ t ≤ k1 := fun hh => h5 ((nI_leI (a := t) (b := k1) (by omega) (by omega)).mpr hh)
    refine s_aload_n B dX9_byteAt_8 rfl 0 rfl ?_
    refine s_get (T := TX9) B inX9 0 rfl rfl 11 (Nat.le_of_ble_eq_true rfl) fl_X9_38 rfl rfl dX9_byteAt_9 ?_
    refine s_iload_n B dX9_byteAt_12 rfl 1 rfl ?_
    refine s_ialdN B 1 0 rfl rfl dX9_byteAt_13 (by omega) (by decide) ?_
    refine s_goto (tgt := 18) B dX9_byteAt_14 rfl ?_
    refine s_iret B hQ hr dX9_byteAt_18 rfl ?_
    exact ⟨by unfold mByte; first | exact (if_pos (by assumption)).symm | exact (if_neg (by omega)).symm | grind, rfl⟩
def rmX9_advance : Room := { frames := 2, cells := 0, slots := 0, locals := 42 }
theorem hd_X9_advance : yX9_advance.cls = RX9 ∧ yX9_advance.cls ≠ "java/lang/invoke/MethodHandle" ∧ yX9_advance.cls ≠ "java/lang/invoke/VarHandle" ∧ (parseMethodDescriptor yX9_advance.desc).map (fun d => d.parameters.length) = some 0 := by decide +kernel
set_option maxHeartbeats 4000000 in
set_option maxRecDepth 100000 in
theorem c_X9_advance (l : Launch) (D : va_G) (g : Nat → ClassId) (b : Nat → Nat) (I : Nat → Int32) (W : Int64) (n p0 t q mm bd : Nat) (te : Nat) (a_tape : Nat → Int32) (hn : n ≤ 8) (hp : p0 = 0 ∨ p0 = 25) (ht : t ≤ 240) (hq0 : q ≤ 20) (hmm : mm ≤ 20) (hbd : bd ≤ 30) (hpre0 : te ≤ t) (hpre1 : TapOk a_tape) : Cv l yX9_advance (WW yX9_advance cX9_advance 2 none) rmX9_advance D vwCl (TY g) [.ref (b 0)] [(b 0, .inr (9, [.int (nI n), .ref (b 1), .ref (b 2), .int (nI p0), .ref (b 3), .ref (b 4), .ref (b 5), .ref (b 6), .ref (b 7), .ref (b 8), .int (I 10), .ref (b 9), .int (nI t), .int (I 13), .int (I 14), .int (nI te), .long W, .int (I 17), .int (I 18), .int (I 19), .int (I 20), .ref (b 10), .ref (b 11), .ref (b 12), .ref (b 13), .ref (b 14), .ref (b 15), .int (nI q), .int (nI mm), .ref (b 16), .ref (b 17), .ref (b 18), .ref (b 19), .ref (b 20), .ref (b 21), .int (I 35), .int (I 36), .int (I 37), .ref (b 22), .int (nI bd), .int (I 40), .int (I 41), .ref (b 23), .int (I 43), .ref (b 24)])), (b 9, .inl (g 0, 240, .inl a_tape))] (fun u => ∃ (begins' : Nat) (tokenEnds' : Nat) (sort' : Int32) (word' : Int64) (value' : Int32), (te ≤ begins' ∧ begins' ≤ tokenEnds' ∧ tokenEnds' ≤ t ∧ (sort' = 0 ∨ begins' < tokenEnds')) ∧ (TC t a_tape begins' tokenEnds' sort' word' value') ∧ (begins' = mSk t a_tape te) ∧ u = [(b 0, .inr (9, [.int (nI n), .ref (b 1), .ref (b 2), .int (nI p0), .ref (b 3), .ref (b 4), .ref (b 5), .ref (b 6), .ref (b 7), .ref (b 8), .int (I 10), .ref (b 9), .int (nI t), .int sort', .int (nI begins'), .int (nI tokenEnds'), .long word', .int value', .int (I 18), .int (I 19), .int (I 20), .ref (b 10), .ref (b 11), .ref (b 12), .ref (b 13), .ref (b 14), .ref (b 15), .int (nI q), .int (nI mm), .ref (b 16), .ref (b 17), .ref (b 18), .ref (b 19), .ref (b 20), .ref (b 21), .int (I 35), .int (I 36), .int (I 37), .ref (b 22), .int (nI bd), .int (I 40), .int (I 41), .ref (b 23), .int (I 43), .ref (b 24)])), (b 9, .inl (g 0, 240, .inl a_tape))]) := by
  refine cv_in (by decide) (Nat.le_of_ble_eq_true rfl) (a0 := [b 0, b 9]) rfl (fun p e s m args below meth c A Q hQ B hr hsc => ?_)
  have L8 : ∀ (jj8 : Nat) (begins_1 : Nat), t - begins_1 < jj8 → (te ≤ t) → (TapOk a_tape) → (begins_1 ≤ t ∧ te ≤ begins_1) → (mSk t a_tape te = mSk t a_tape begins_1) → Sx p l e rmX9_advance s m args below meth c D vwCl A 2 Q 8 [(0, .ref (b 0))] [] [(b 0, .inr (9, [.int (nI n), .ref (b 1), .ref (b 2), .int (nI p0), .ref (b 3), .ref (b 4), .ref (b 5), .ref (b 6), .ref (b 7), .ref (b 8), .int (I 10), .ref (b 9), .int (nI t), .int (I 13), .int (nI begins_1), .int (nI te), .long W, .int (I 17), .int (I 18), .int (I 19), .int (I 20), .ref (b 10), .ref (b 11), .ref (b 12), .ref (b 13), .ref (b 14), .ref (b 15), .int (nI q), .int (nI mm), .ref (b 16), .ref (b 17), .ref (b 18), .ref (b 19), .ref (b 20), .ref (b 21), .int (I 35), .int (I 36), .int (I 37), .ref (b 22), .int (nI bd), .int (I 40), .int (I 41), .ref (b 23), .int (I 43), .ref (b 24)])), (b 9, .inl (g 0, 240, .inl a_tape))] := by
    intro jj8
    induction jj8 with
    | zero => intro begins_1 hj; exact absurd hj (Nat.not_lt_zero _)
    | succ jj8 ih8 =>
      intro begins_1 hj8 hpre0 hpre1 hj_2 hK_3
      have L126 : ∀ (jj126 : Nat) (v_14 : Int32) (tokenEnds_15 : Nat) (w_16 : Int64) (v_17 : Int32), t - tokenEnds_15 < jj126 → (te ≤ t) → (TapOk a_tape) → (begins_1 ≤ t ∧ te ≤ begins_1) → (mSk t a_tape te = mSk t a_tape begins_1) → (¬ (mByte t a_tape begins_1) = 32) → (te ≤ begins_1 ∧ begins_1 ≤ tokenEnds_15 ∧ tokenEnds_15 ≤ t) → (TA t a_tape begins_1 tokenEnds_15 v_14 w_16 v_17) → Sx p l e rmX9_advance s m args below meth c D vwCl A 2 Q 126 [(0, .ref (b 0))] [] [(b 0, .inr (9, [.int (nI n), .ref (b 1), .ref (b 2), .int (nI p0), .ref (b 3), .ref (b 4), .ref (b 5), .ref (b 6), .ref (b 7), .ref (b 8), .int (I 10), .ref (b 9), .int (nI t), .int v_14, .int (nI begins_1), .int (nI tokenEnds_15), .long w_16, .int v_17, .int (I 18), .int (I 19), .int (I 20), .ref (b 10), .ref (b 11), .ref (b 12), .ref (b 13), .ref (b 14), .ref (b 15), .int (nI q), .int (nI mm), .ref (b 16), .ref (b 17), .ref (b 18), .ref (b 19), .ref (b 20), .ref (b 21), .int (I 35), .int (I 36), .int (I 37), .ref (b 22), .int (nI bd), .int (I 40), .int (I 41), .ref (b 23), .int (I 43), .ref (b 24)])), (b 9, .inl (g 0, 240, .inl a_tape))] := by
        intro jj126
        induction jj126 with
        | zero => intro v_14 tokenEnds_15 w_16 v_17 hj; exact absurd hj (Nat.not_lt_zero _)
        | succ jj126 ih126 =>
          intro v_14 tokenEnds_15 w_16 v_17 hj126 hpre0 hpre1 hj_2 hK_3 h18 hj_18 hJ_19
          have L207 : ∀ (jj207 : Nat) (tokenEnds_30 : Nat) (v_31 : Int32), t - tokenEnds_30 < jj207 → (te ≤ t) → (TapOk a_tape) → (begins_1 ≤ t ∧ te ≤ begins_1) → (mSk t a_tape te = mSk t a_tape begins_1) → (¬ (mByte t a_tape begins_1) = 32) → (te ≤ begins_1 ∧ begins_1 ≤ tokenEnds_15 ∧ tokenEnds_15 ≤ t) → (TA t a_tape begins_1 tokenEnds_15 v_14 w_16 v_17) → (te ≤ begins_1 ∧ begins_1 ≤ tokenEnds_30 ∧ tokenEnds_30 ≤ t) → (TB t a_tape begins_1 tokenEnds_30 v_14 w_16 v_31) → Sx p l e rmX9_advance s m args below meth c D vwCl A 2 Q 207 [(0, .ref (b 0))] [] [(b 0, .inr (9, [.int (nI n), .ref (b 1), .ref (b 2), .int (nI p0), .ref (b 3), .ref (b 4), .ref (b 5), .ref (b 6), .ref (b 7), .ref (b 8), .int (I 10), .ref (b 9), .int (nI t), .int v_14, .int (nI begins_1), .int (nI tokenEnds_30), .long w_16, .int v_31, .int (I 18), .int (I 19), .int (I 20), .ref (b 10), .ref (b 11), .ref (b 12), .ref (b 13), .ref (b 14), .ref (b 15), .int (nI q), .int (nI mm), .ref (b 16), .ref (b 17), .ref (b 18), .ref (b 19), .ref (b 20), .ref (b 21), .int (I 35), .int (I 36), .int (I 37), .ref (b 22), .int (nI bd), .int (I 40), .int (I 41), .ref (b 23), .int (I 43), .ref (b 24)])), (b 9, .inl (g 0, 240, .inl a_tape))] := by
            intro jj207
            induction jj207 with
            | zero => intro tokenEnds_30 v_31 hj; exact absurd hj (Nat.not_lt_zero _)
            | succ jj207 ih207 =>
              intro tokenEnds_30 v_31 hj207 hpre0 hpre1 hj_2 hK_3 h18 hj_18 hJ_19 hj_32 hJ_33
              refine s_aload_n B dX9_advance_207 rfl 0 rfl ?_
              refine s_get (T := TX9) B inX9 0 rfl rfl 13 (Nat.le_of_ble_eq_true rfl) fl_X9_116 rfl rfl dX9_advance_208 ?_
              refine s_iconst B dX9_advance_211 ic_2 ?_
              refine s_icmp_ne (tgt := 282) B dX9_advance_212 rfl (fun h212 => ?_) (fun h212 => ?_)
              · refine s_vret B hQ hr dX9_advance_282 rfl ?_
                exact ⟨begins_1, tokenEnds_30, v_14, w_16, v_31, (tok_c (by first | exact TC_a (by assumption) (by assumption) | exact TC_b (by assumption) (by assumption) (by assumption)) (by omega) (by omega) (by omega)), (by first | exact TC_a (by assumption) (by assumption) | exact TC_b (by assumption) (by assumption) (by assumption)), (Eq.trans (by assumption) (mSk_xb (by assumption))).symm, rfl⟩
              · refine s_aload_n B dX9_advance_215 rfl 0 rfl ?_
                refine s_aload_n B dX9_advance_216 rfl 0 rfl ?_
                refine s_get (T := TX9) B inX9 0 rfl rfl 15 (Nat.le_of_ble_eq_true rfl) fl_X9_99 rfl rfl dX9_advance_217 ?_
                refine s_callVi B hsc (c_X9_byteAt l D g b (upd (upd (upd (upd I 13 v_14) 14 (nI begins_1)) 15 (nI tokenEnds_30)) 17 v_31) w_16 n p0 t q mm bd a_tape tokenEnds_30 (by omega) (by omega) (by omega) (by omega) (by omega) (by omega) (by first | assumption | decide | (intro h9; first | assumption | exact absurd h9 (by decide)) | omega | rfl | (refine ⟨_, ?_, by assumption⟩; omega) | (clear hQ B hr hsc; grind))) (gw_V ml_X9_105 im_yX9_byteAt se_yX9_byteAt ini_RX9 co_yX9_byteAt) hd_X9_byteAt rfl rfl ⟨(Nat.le_of_ble_eq_true rfl), (Nat.le_of_ble_eq_true rfl)⟩ [0, 1] [0, 1, 2, 3, 4] rfl rfl rfl (ci := 9) (q0 := 0) rfl rfl rfl rfl rfl (Nat.le_of_ble_eq_true rfl) dX9_advance_220 (fun r_34 u_35 hpo => ?_)
                obtain ⟨rfl, rfl⟩ := hpo
                refine s_st (st' := [.int (mByte t a_tape tokenEnds_30)]) rfl ?_
                refine s_ws (ws' := [(b 0, .inr (9, [.int (nI n), .ref (b 1), .ref (b 2), .int (nI p0), .ref (b 3), .ref (b 4), .ref (b 5), .ref (b 6), .ref (b 7), .ref (b 8), .int (I 10), .ref (b 9), .int (nI t), .int v_14, .int (nI begins_1), .int (nI tokenEnds_30), .long w_16, .int v_31, .int (I 18), .int (I 19), .int (I 20), .ref (b 10), .ref (b 11), .ref (b 12), .ref (b 13), .ref (b 14), .ref (b 15), .int (nI q), .int (nI mm), .ref (b 16), .ref (b 17), .ref (b 18), .ref (b 19), .ref (b 20), .ref (b 21), .int (I 35), .int (I 36), .int (I 37), .ref (b 22), .int (nI bd), .int (I 40), .int (I 41), .ref (b 23), .int (I 43), .ref (b 24)])), (b 9, .inl (g 0, 240, .inl a_tape))]) rfl ?_
                refine s_callSi B hsc (c_X9_isDigit l D g (mByte t a_tape tokenEnds_30)) (gw_S ml_X9_113 sm_yX9_isDigit ini_RX9 co_yX9_isDigit) hd_X9_isDigit rfl rfl ⟨(Nat.le_of_ble_eq_true rfl), (Nat.le_of_ble_eq_true rfl)⟩ [] [0, 1, 2, 3, 4] rfl rfl rfl rfl rfl (Nat.le_of_ble_eq_true rfl) dX9_advance_223 (fun r_36 u_37 hpo => ?_)
                obtain ⟨rfl, rfl⟩ := hpo
                refine s_st (st' := [.int (if ¬ (mByte t a_tape tokenEnds_30) < 48 ∧ ¬ 57 < (mByte t a_tape tokenEnds_30) then 1 else 0)]) rfl ?_
                refine s_ws (ws' := [(b 0, .inr (9, [.int (nI n), .ref (b 1), .ref (b 2), .int (nI p0), .ref (b 3), .ref (b 4), .ref (b 5), .ref (b 6), .ref (b 7), .ref (b 8), .int (I 10), .ref (b 9), .int (nI t), .int v_14, .int (nI begins_1), .int (nI tokenEnds_30), .long w_16, .int v_31, .int (I 18), .int (I 19), .int (I 20), .ref (b 10), .ref (b 11), .ref (b 12), .ref (b 13), .ref (b 14), .ref (b 15), .int (nI q), .int (nI mm), .ref (b 16), .ref (b 17), .ref (b 18), .ref (b 19), .ref (b 20), .ref (b 21), .int (I 35), .int (I 36), .int (I 37), .ref (b 22), .int (nI bd), .int (I 40), .int (I 41), .ref (b 23), .int (I 43), .ref (b 24)])), (b 9, .inl (g 0, 240, .inl a_tape))]) rfl ?_
                refine s_bif_eq (tgt := 282) B dX9_advance_226 rfl (fun h226 => ?_) (fun h226 => ?_)
                · refine s_vret B hQ hr dX9_advance_282 rfl ?_
                  exact ⟨begins_1, tokenEnds_30, v_14, w_16, v_31, (tok_c (by first | exact TC_a (by assumption) (by assumption) | exact TC_b (by assumption) (by assumption) (by assumption)) (by omega) (by omega) (by omega)), (by first | exact TC_a (by assumption) (by assumption) | exact TC_b (by assumption) (by assumption) (by assumption)), (Eq.trans (by assumption) (mSk_xb (by assumption))).symm, rfl⟩
                · have hin_38 : tokenEnds_30 < t := mByte_in (tp := a_tape) (fun e => by rw [e] at h226; revert h226; decide)
                  refine s_aload_n B dX9_advance_229 rfl 0 rfl ?_
                  refine s_aload_n B dX9_advance_230 rfl 0 rfl ?_
                  refine s_get (T := TX9) B inX9 0 rfl rfl 15 (Nat.le_of_ble_eq_true rfl) fl_X9_99 rfl rfl dX9_advance_231 ?_
                  refine s_aload_n B dX9_advance_234 rfl 0 rfl ?_
                  refine s_get (T := TX9) B inX9 0 rfl rfl 14 (Nat.le_of_ble_eq_true rfl) fl_X9_102 rfl rfl dX9_advance_235 ?_
                  refine s_isub B dX9_advance_238 ?_
                  refine s_iconst B dX9_advance_239 ic_2 ?_
                  refine s_icmp_ge (tgt := 265) B dX9_advance_240 rfl (fun h240 => ?_) (fun h240 => ?_)
                  · refine s_iconst B dX9_advance_265 ic_m1 ?_
                    refine s_put (T := TX9) (ws' := [_, _]) B inX9 tyX9_ok nmX9 0 rfl rfl 17 (Nat.le_of_ble_eq_true rfl) fl_X9_123 rfl rfl rfl rfl (Nat.le_of_ble_eq_true rfl) rfl dX9_advance_266 ?_
                    refine s_aload_n B dX9_advance_269 rfl 0 rfl ?_
                    refine s_dup B dX9_advance_270 rfl ?_
                    refine s_get (T := TX9) B inX9 0 rfl rfl 15 (Nat.le_of_ble_eq_true rfl) fl_X9_99 rfl rfl dX9_advance_271 ?_
                    refine s_iconst B dX9_advance_274 ic_1 ?_
                    refine s_iaddE B dX9_advance_275 (nI_add tokenEnds_30 1) ?_
                    refine s_put (T := TX9) (ws' := [_, _]) B inX9 tyX9_ok nmX9 0 rfl rfl 15 (Nat.le_of_ble_eq_true rfl) fl_X9_99 rfl rfl rfl rfl (Nat.le_of_ble_eq_true rfl) rfl dX9_advance_276 ?_
                    refine s_goto (tgt := 207) B dX9_advance_279 rfl ?_
                    refine s_lv (lv' := [(0, _)]) [0] rfl ?_
                    exact ih207 (tokenEnds_30 + 1) (-1) (by omega) hpre0 hpre1 hj_2 hK_3 h18 hj_18 hJ_19 (by omega) (by first | exact TB_a (by assumption) (by assumption) (by assumption) | exact TB_b (by assumption) (by assumption) (by assumption) | exact TB_s1 (by assumption) (by assumption) (by assumption) ht (by assumption) (Int32.not_le.mp (by assumption)) | exact TB_s2 (by assumption) (by assumption) (by assumption) ht (by assumption) (Int32.not_lt.mpr (by assumption)))
                  · refine s_bipush B dX9_advance_243 bp_10 ?_
                    refine s_aload_n B dX9_advance_245 rfl 0 rfl ?_
                    refine s_get (T := TX9) B inX9 0 rfl rfl 17 (Nat.le_of_ble_eq_true rfl) fl_X9_123 rfl rfl dX9_advance_246 ?_
                    refine s_imul B dX9_advance_249 ?_
                    refine s_aload_n B dX9_advance_250 rfl 0 rfl ?_
                    refine s_aload_n B dX9_advance_251 rfl 0 rfl ?_
                    refine s_get (T := TX9) B inX9 0 rfl rfl 15 (Nat.le_of_ble_eq_true rfl) fl_X9_99 rfl rfl dX9_advance_252 ?_
                    refine s_callVi B hsc (c_X9_byteAt l D g b (upd (upd (upd (upd I 13 v_14) 14 (nI begins_1)) 15 (nI tokenEnds_30)) 17 v_31) w_16 n p0 t q mm bd a_tape tokenEnds_30 (by omega) (by omega) (by omega) (by omega) (by omega) (by omega) (by first | assumption | decide | (intro h9; first | assumption | exact absurd h9 (by decide)) | omega | rfl | (refine ⟨_, ?_, by assumption⟩; omega) | (clear hQ B hr hsc; grind))) (gw_V ml_X9_105 im_yX9_byteAt se_yX9_byteAt ini_RX9 co_yX9_byteAt) hd_X9_byteAt rfl rfl ⟨(Nat.le_of_ble_eq_true rfl), (Nat.le_of_ble_eq_true rfl)⟩ [0, 1] [0, 1, 2, 3, 4] rfl rfl rfl (ci := 9) (q0 := 0) rfl rfl rfl rfl rfl (Nat.le_of_ble_eq_true rfl) dX9_advance_255 (fun r_39 u_40 hpo => ?_)
                    obtain ⟨rfl, rfl⟩ := hpo
                    refine s_st (st' := [.int (mByte t a_tape tokenEnds_30), .int (10 * v_31), .ref (b 0)]) rfl ?_
                    refine s_ws (ws' := [(b 0, .inr (9, [.int (nI n), .ref (b 1), .ref (b 2), .int (nI p0), .ref (b 3), .ref (b 4), .ref (b 5), .ref (b 6), .ref (b 7), .ref (b 8), .int (I 10), .ref (b 9), .int (nI t), .int v_14, .int (nI begins_1), .int (nI tokenEnds_30), .long w_16, .int v_31, .int (I 18), .int (I 19), .int (I 20), .ref (b 10), .ref (b 11), .ref (b 12), .ref (b 13), .ref (b 14), .ref (b 15), .int (nI q), .int (nI mm), .ref (b 16), .ref (b 17), .ref (b 18), .ref (b 19), .ref (b 20), .ref (b 21), .int (I 35), .int (I 36), .int (I 37), .ref (b 22), .int (nI bd), .int (I 40), .int (I 41), .ref (b 23), .int (I 43), .ref (b 24)])), (b 9, .inl (g 0, 240, .inl a_tape))]) rfl ?_
                    refine s_iadd B dX9_advance_258 ?_
                    refine s_bipush B dX9_advance_259 bp_48 ?_
                    refine s_isub B dX9_advance_261 ?_
                    refine s_goto (tgt := 266) B dX9_advance_262 rfl ?_
                    refine s_put (T := TX9) (ws' := [_, _]) B inX9 tyX9_ok nmX9 0 rfl rfl 17 (Nat.le_of_ble_eq_true rfl) fl_X9_123 rfl rfl rfl rfl (Nat.le_of_ble_eq_true rfl) rfl dX9_advance_266 ?_
                    refine s_aload_n B dX9_advance_269 rfl 0 rfl ?_
                    refine s_dup B dX9_advance_270 rfl ?_
                    refine s_get (T := TX9) B inX9 0 rfl rfl 15 (Nat.le_of_ble_eq_true rfl) fl_X9_99 rfl rfl dX9_advance_271 ?_
                    refine s_iconst B dX9_advance_274 ic_1 ?_
                    refine s_iaddE B dX9_advance_275 (nI_add tokenEnds_30 1) ?_
                    refine s_put (T := TX9) (ws' := [_, _]) B inX9 tyX9_ok nmX9 0 rfl rfl 15 (Nat.le_of_ble_eq_true rfl) fl_X9_99 rfl rfl rfl rfl (Nat.le_of_ble_eq_true rfl) rfl dX9_advance_276 ?_
                    refine s_goto (tgt := 207) B dX9_advance_279 rfl ?_
                    refine s_lv (lv' := [(0, _)]) [0] rfl ?_
                    exact ih207 (tokenEnds_30 + 1) (((10 * v_31) + (mByte t a_tape tokenEnds_30)) - 48) (by omega) hpre0 hpre1 hj_2 hK_3 h18 hj_18 hJ_19 (by omega) (by first | exact TB_a (by assumption) (by assumption) (by assumption) | exact TB_b (by assumption) (by assumption) (by assumption) | exact TB_s1 (by assumption) (by assumption) (by assumption) ht (by assumption) (Int32.not_le.mp (by assumption)) | exact TB_s2 (by assumption) (by assumption) (by assumption) ht (by assumption) (Int32.not_lt.mpr (by assumption)))
          have M191 : ∀ (w_27 : Int64), (te ≤ t) → (TapOk a_tape) → (begins_1 ≤ t ∧ te ≤ begins_1) → (mSk t a_tape te = mSk t a_tape begins_1) → (¬ (mByte t a_tape begins_1) = 32) → (te ≤ begins_1 ∧ begins_1 ≤ tokenEnds_15 ∧ tokenEnds_15 ≤ t) → (TA t a_tape begins_1 tokenEnds_15 v_14 w_16 v_17) → (v_14 = 1) → (¬ (mByte t a_tape tokenEnds_15) < 97 ∧ ¬ 122 < (mByte t a_tape tokenEnds_15)) → (tokenEnds_15 < t) → (te ≤ begins_1 ∧ begins_1 ≤ tokenEnds_15 ∧ tokenEnds_15 ≤ t) → (TA t a_tape begins_1 (tokenEnds_15 + 1) v_14 w_27 v_17) → Sx p l e rmX9_advance s m args below meth c D vwCl A 2 Q 191 [(0, .ref (b 0))] [.long w_27, .ref (b 0)] [(b 0, .inr (9, [.int (nI n), .ref (b 1), .ref (b 2), .int (nI p0), .ref (b 3), .ref (b 4), .ref (b 5), .ref (b 6), .ref (b 7), .ref (b 8), .int (I 10), .ref (b 9), .int (nI t), .int v_14, .int (nI begins_1), .int (nI tokenEnds_15), .long w_16, .int v_17, .int (I 18), .int (I 19), .int (I 20), .ref (b 10), .ref (b 11), .ref (b 12), .ref (b 13), .ref (b 14), .ref (b 15), .int (nI q), .int (nI mm), .ref (b 16), .ref (b 17), .ref (b 18), .ref (b 19), .ref (b 20), .ref (b 21), .int (I 35), .int (I 36), .int (I 37), .ref (b 22), .int (nI bd), .int (I 40), .int (I 41), .ref (b 23), .int (I 43), .ref (b 24)])), (b 9, .inl (g 0, 240, .inl a_tape))] := by
            intro w_27 hpre0 hpre1 hj_2 hK_3 h18 hj_18 hJ_19 h131 h145 hin_24 hj_28 hJ_29
            refine s_put (T := TX9) (ws' := [_, _]) B inX9 tyX9_ok nmX9 0 rfl rfl 16 (Nat.le_of_ble_eq_true rfl) fl_X9_119 rfl rfl rfl rfl (Nat.le_of_ble_eq_true rfl) rfl dX9_advance_191 ?_
            refine s_aload_n B dX9_advance_194 rfl 0 rfl ?_
            refine s_dup B dX9_advance_195 rfl ?_
            refine s_get (T := TX9) B inX9 0 rfl rfl 15 (Nat.le_of_ble_eq_true rfl) fl_X9_99 rfl rfl dX9_advance_196 ?_
            refine s_iconst B dX9_advance_199 ic_1 ?_
            refine s_iaddE B dX9_advance_200 (nI_add tokenEnds_15 1) ?_
            refine s_put (T := TX9) (ws' := [_, _]) B inX9 tyX9_ok nmX9 0 rfl rfl 15 (Nat.le_of_ble_eq_true rfl) fl_X9_99 rfl rfl rfl rfl (Nat.le_of_ble_eq_true rfl) rfl dX9_advance_201 ?_
            refine s_goto (tgt := 126) B dX9_advance_204 rfl ?_
            refine s_lv (lv' := [(0, _)]) [0] rfl ?_
            exact ih126 v_14 (tokenEnds_15 + 1) w_27 v_17 (by omega) hpre0 hpre1 hj_2 hK_3 h18 (by omega) (by first | assumption | exact TA_i0 (Int32.not_le.mp (by assumption)) | exact TA_i1 (by assumption) | exact TA_i2 (by assumption) | exact TA_i3 (Int32.not_lt.mpr (by assumption)) (by assumption) (by assumption))
          refine s_aload_n B dX9_advance_126 rfl 0 rfl ?_
          refine s_get (T := TX9) B inX9 0 rfl rfl 13 (Nat.le_of_ble_eq_true rfl) fl_X9_116 rfl rfl dX9_advance_127 ?_
          refine s_iconst B dX9_advance_130 ic_1 ?_
          refine s_icmp_ne (tgt := 207) B dX9_advance_131 rfl (fun h131 => ?_) (fun h131 => ?_)
          · refine s_lv (lv' := [(0, _)]) [0] rfl ?_
            exact L207 _ tokenEnds_15 v_17 (Nat.lt_succ_self _) hpre0 hpre1 hj_2 hK_3 h18 hj_18 hJ_19 (by omega) (by first | exact TB_a (by assumption) (by assumption) (by assumption) | exact TB_b (by assumption) (by assumption) (by assumption) | exact TB_s1 (by assumption) (by assumption) (by assumption) ht (by assumption) (Int32.not_le.mp (by assumption)) | exact TB_s2 (by assumption) (by assumption) (by assumption) ht (by assumption) (Int32.not_lt.mpr (by assumption)))
          · refine s_aload_n B dX9_advance_134 rfl 0 rfl ?_
            refine s_aload_n B dX9_advance_135 rfl 0 rfl ?_
            refine s_get (T := TX9) B inX9 0 rfl rfl 15 (Nat.le_of_ble_eq_true rfl) fl_X9_99 rfl rfl dX9_advance_136 ?_
            refine s_callVi B hsc (c_X9_byteAt l D g b (upd (upd (upd (upd I 13 v_14) 14 (nI begins_1)) 15 (nI tokenEnds_15)) 17 v_17) w_16 n p0 t q mm bd a_tape tokenEnds_15 (by omega) (by omega) (by omega) (by omega) (by omega) (by omega) (by first | assumption | decide | (intro h9; first | assumption | exact absurd h9 (by decide)) | omega | rfl | (refine ⟨_, ?_, by assumption⟩; omega) | (clear hQ B hr hsc; grind))) (gw_V ml_X9_105 im_yX9_byteAt se_yX9_byteAt ini_RX9 co_yX9_byteAt) hd_X9_byteAt rfl rfl ⟨(Nat.le_of_ble_eq_true rfl), (Nat.le_of_ble_eq_true rfl)⟩ [0, 1] [0, 1, 2, 3, 4] rfl rfl rfl (ci := 9) (q0 := 0) rfl rfl rfl rfl rfl (Nat.le_of_ble_eq_true rfl) dX9_advance_139 (fun r_20 u_21 hpo => ?_)
            obtain ⟨rfl, rfl⟩ := hpo
            refine s_st (st' := [.int (mByte t a_tape tokenEnds_15)]) rfl ?_
            refine s_ws (ws' := [(b 0, .inr (9, [.int (nI n), .ref (b 1), .ref (b 2), .int (nI p0), .ref (b 3), .ref (b 4), .ref (b 5), .ref (b 6), .ref (b 7), .ref (b 8), .int (I 10), .ref (b 9), .int (nI t), .int v_14, .int (nI begins_1), .int (nI tokenEnds_15), .long w_16, .int v_17, .int (I 18), .int (I 19), .int (I 20), .ref (b 10), .ref (b 11), .ref (b 12), .ref (b 13), .ref (b 14), .ref (b 15), .int (nI q), .int (nI mm), .ref (b 16), .ref (b 17), .ref (b 18), .ref (b 19), .ref (b 20), .ref (b 21), .int (I 35), .int (I 36), .int (I 37), .ref (b 22), .int (nI bd), .int (I 40), .int (I 41), .ref (b 23), .int (I 43), .ref (b 24)])), (b 9, .inl (g 0, 240, .inl a_tape))]) rfl ?_
            refine s_callSi B hsc (c_X9_isLetter l D g (mByte t a_tape tokenEnds_15)) (gw_S ml_X9_109 sm_yX9_isLetter ini_RX9 co_yX9_isLetter) hd_X9_isLetter rfl rfl ⟨(Nat.le_of_ble_eq_true rfl), (Nat.le_of_ble_eq_true rfl)⟩ [] [0, 1, 2, 3, 4] rfl rfl rfl rfl rfl (Nat.le_of_ble_eq_true rfl) dX9_advance_142 (fun r_22 u_23 hpo => ?_)
            obtain ⟨rfl, rfl⟩ := hpo
            refine s_st (st' := [.int (if ¬ (mByte t a_tape tokenEnds_15) < 97 ∧ ¬ 122 < (mByte t a_tape tokenEnds_15) then 1 else 0)]) rfl ?_
            refine s_ws (ws' := [(b 0, .inr (9, [.int (nI n), .ref (b 1), .ref (b 2), .int (nI p0), .ref (b 3), .ref (b 4), .ref (b 5), .ref (b 6), .ref (b 7), .ref (b 8), .int (I 10), .ref (b 9), .int (nI t), .int v_14, .int (nI begins_1), .int (nI tokenEnds_15), .long w_16, .int v_17, .int (I 18), .int (I 19), .int (I 20), .ref (b 10), .ref (b 11), .ref (b 12), .ref (b 13), .ref (b 14), .ref (b 15), .int (nI q), .int (nI mm), .ref (b 16), .ref (b 17), .ref (b 18), .ref (b 19), .ref (b 20), .ref (b 21), .int (I 35), .int (I 36), .int (I 37), .ref (b 22), .int (nI bd), .int (I 40), .int (I 41), .ref (b 23), .int (I 43), .ref (b 24)])), (b 9, .inl (g 0, 240, .inl a_tape))]) rfl ?_
            refine s_bif_eq (tgt := 207) B dX9_advance_145 rfl (fun h145 => ?_) (fun h145 => ?_)
            · refine s_lv (lv' := [(0, _)]) [0] rfl ?_
              exact L207 _ tokenEnds_15 v_17 (Nat.lt_succ_self _) hpre0 hpre1 hj_2 hK_3 h18 hj_18 hJ_19 (by omega) (by first | exact TB_a (by assumption) (by assumption) (by assumption) | exact TB_b (by assumption) (by assumption) (by assumption) | exact TB_s1 (by assumption) (by assumption) (by assumption) ht (by assumption) (Int32.not_le.mp (by assumption)) | exact TB_s2 (by assumption) (by assumption) (by assumption) ht (by assumption) (Int32.not_lt.mpr (by assumption)))
            · have hin_24 : tokenEnds_15 < t := mByte_in (tp := a_tape) (fun e => by rw [e] at h145; revert h145; decide)
              refine s_aload_n B dX9_advance_148 rfl 0 rfl ?_
              refine s_aload_n B dX9_advance_149 rfl 0 rfl ?_
              refine s_get (T := TX9) B inX9 0 rfl rfl 15 (Nat.le_of_ble_eq_true rfl) fl_X9_99 rfl rfl dX9_advance_150 ?_
              refine s_aload_n B dX9_advance_153 rfl 0 rfl ?_
              refine s_get (T := TX9) B inX9 0 rfl rfl 14 (Nat.le_of_ble_eq_true rfl) fl_X9_102 rfl rfl dX9_advance_154 ?_
              refine s_isub B dX9_advance_157 ?_
              refine s_bipush B dX9_advance_158 bp_8 ?_
              refine s_icmp_ge (tgt := 188) B dX9_advance_160 rfl (fun h160 => ?_) (fun h160 => ?_)
              · refine s_ldc2 B cn_X9_130 dX9_advance_188 ?_
                refine s_lv (lv' := [(0, _)]) [0] rfl ?_
                exact M191 (-1) hpre0 hpre1 hj_2 hK_3 h18 hj_18 hJ_19 h131 h145 hin_24 (by omega) (by first | exact TA_s1 (by assumption) (by assumption) (by assumption) ht (by assumption) (Int32.not_le.mp (by assumption)) | exact TA_s2 (by assumption) (by assumption) (by assumption) ht (by assumption) (Int32.not_lt.mpr (by assumption)))
              · refine s_ldc2 B cn_X9_126 dX9_advance_163 ?_
                refine s_aload_n B dX9_advance_166 rfl 0 rfl ?_
                refine s_get (T := TX9) B inX9 0 rfl rfl 16 (Nat.le_of_ble_eq_true rfl) fl_X9_119 rfl rfl dX9_advance_167 ?_
                refine s_lmul B dX9_advance_170 ?_
                refine s_aload_n B dX9_advance_171 rfl 0 rfl ?_
                refine s_aload_n B dX9_advance_172 rfl 0 rfl ?_
                refine s_get (T := TX9) B inX9 0 rfl rfl 15 (Nat.le_of_ble_eq_true rfl) fl_X9_99 rfl rfl dX9_advance_173 ?_
                refine s_callVi B hsc (c_X9_byteAt l D g b (upd (upd (upd (upd I 13 v_14) 14 (nI begins_1)) 15 (nI tokenEnds_15)) 17 v_17) w_16 n p0 t q mm bd a_tape tokenEnds_15 (by omega) (by omega) (by omega) (by omega) (by omega) (by omega) (by first | assumption | decide | (intro h9; first | assumption | exact absurd h9 (by decide)) | omega | rfl | (refine ⟨_, ?_, by assumption⟩; omega) | (clear hQ B hr hsc; grind))) (gw_V ml_X9_105 im_yX9_byteAt se_yX9_byteAt ini_RX9 co_yX9_byteAt) hd_X9_byteAt rfl rfl ⟨(Nat.le_of_ble_eq_true rfl), (Nat.le_of_ble_eq_true rfl)⟩ [0, 1] [0, 1, 2, 3, 4] rfl rfl rfl (ci := 9) (q0 := 0) rfl rfl rfl rfl rfl (Nat.le_of_ble_eq_true rfl) dX9_advance_176 (fun r_25 u_26 hpo => ?_)
                obtain ⟨rfl, rfl⟩ := hpo
                refine s_st (st' := [.int (mByte t a_tape tokenEnds_15), .long (27 * w_16), .ref (b 0)]) rfl ?_
                refine s_ws (ws' := [(b 0, .inr (9, [.int (nI n), .ref (b 1), .ref (b 2), .int (nI p0), .ref (b 3), .ref (b 4), .ref (b 5), .ref (b 6), .ref (b 7), .ref (b 8), .int (I 10), .ref (b 9), .int (nI t), .int v_14, .int (nI begins_1), .int (nI tokenEnds_15), .long w_16, .int v_17, .int (I 18), .int (I 19), .int (I 20), .ref (b 10), .ref (b 11), .ref (b 12), .ref (b 13), .ref (b 14), .ref (b 15), .int (nI q), .int (nI mm), .ref (b 16), .ref (b 17), .ref (b 18), .ref (b 19), .ref (b 20), .ref (b 21), .int (I 35), .int (I 36), .int (I 37), .ref (b 22), .int (nI bd), .int (I 40), .int (I 41), .ref (b 23), .int (I 43), .ref (b 24)])), (b 9, .inl (g 0, 240, .inl a_tape))]) rfl ?_
                refine s_i2l B dX9_advance_179 rfl ?_
                refine s_ladd B dX9_advance_180 ?_
                refine s_ldc2 B cn_X9_128 dX9_advance_181 ?_
                refine s_lsub B dX9_advance_184 ?_
                refine s_goto (tgt := 191) B dX9_advance_185 rfl ?_
                refine s_lv (lv' := [(0, _)]) [0] rfl ?_
                exact M191 (((27 * w_16) + ((mByte t a_tape tokenEnds_15).toInt64)) - 96) hpre0 hpre1 hj_2 hK_3 h18 hj_18 hJ_19 h131 h145 hin_24 (by omega) (by first | exact TA_s1 (by assumption) (by assumption) (by assumption) ht (by assumption) (Int32.not_le.mp (by assumption)) | exact TA_s2 (by assumption) (by assumption) (by assumption) ht (by assumption) (Int32.not_lt.mpr (by assumption)))
      refine s_aload_n B dX9_advance_8 rfl 0 rfl ?_
      refine s_aload_n B dX9_advance_9 rfl 0 rfl ?_
      refine s_get (T := TX9) B inX9 0 rfl rfl 14 (Nat.le_of_ble_eq_true rfl) fl_X9_102 rfl rfl dX9_advance_10 ?_
      refine s_callVi B hsc (c_X9_byteAt l D g b (upd (upd I 14 (nI begins_1)) 15 (nI te)) W n p0 t q mm bd a_tape begins_1 (by omega) (by omega) (by omega) (by omega) (by omega) (by omega) (by first | assumption | decide | (intro h9; first | assumption | exact absurd h9 (by decide)) | omega | rfl | (refine ⟨_, ?_, by assumption⟩; omega) | (clear hQ B hr hsc; grind))) (gw_V ml_X9_105 im_yX9_byteAt se_yX9_byteAt ini_RX9 co_yX9_byteAt) hd_X9_byteAt rfl rfl ⟨(Nat.le_of_ble_eq_true rfl), (Nat.le_of_ble_eq_true rfl)⟩ [0, 1] [0, 1, 2, 3, 4] rfl rfl rfl (ci := 9) (q0 := 0) rfl rfl rfl rfl rfl (Nat.le_of_ble_eq_true rfl) dX9_advance_13 (fun r_4 u_5 hpo => ?_)
      obtain ⟨rfl, rfl⟩ := hpo
      refine s_st (st' := [.int (mByte t a_tape begins_1)]) rfl ?_
      refine s_ws (ws' := [(b 0, .inr (9, [.int (nI n), .ref (b 1), .ref (b 2), .int (nI p0), .ref (b 3), .ref (b 4), .ref (b 5), .ref (b 6), .ref (b 7), .ref (b 8), .int (I 10), .ref (b 9), .int (nI t), .int (I 13), .int (nI begins_1), .int (nI te), .long W, .int (I 17), .int (I 18), .int (I 19), .int (I 20), .ref (b 10), .ref (b 11), .ref (b 12), .ref (b 13), .ref (b 14), .ref (b 15), .int (nI q), .int (nI mm), .ref (b 16), .ref (b 17), .ref (b 18), .ref (b 19), .ref (b 20), .ref (b 21), .int (I 35), .int (I 36), .int (I 37), .ref (b 22), .int (nI bd), .int (I 40), .int (I 41), .ref (b 23), .int (I 43), .ref (b 24)])), (b 9, .inl (g 0, 240, .inl a_tape))]) rfl ?_
      refine s_bipush B dX9_advance_16 bp_32 ?_
      refine s_icmp_ne (tgt := 34) B dX9_advance_18 rfl (fun h18 => ?_) (fun h18 => ?_)
      · refine s_aload_n B dX9_advance_34 rfl 0 rfl ?_
        refine s_aload_n B dX9_advance_35 rfl 0 rfl ?_
        refine s_get (T := TX9) B inX9 0 rfl rfl 14 (Nat.le_of_ble_eq_true rfl) fl_X9_102 rfl rfl dX9_advance_36 ?_
        refine s_put (T := TX9) (ws' := [_, _]) B inX9 tyX9_ok nmX9 0 rfl rfl 15 (Nat.le_of_ble_eq_true rfl) fl_X9_99 rfl rfl rfl rfl (Nat.le_of_ble_eq_true rfl) rfl dX9_advance_39 ?_
        refine s_aload_n B dX9_advance_42 rfl 0 rfl ?_
        refine s_aload_n B dX9_advance_43 rfl 0 rfl ?_
        refine s_get (T := TX9) B inX9 0 rfl rfl 14 (Nat.le_of_ble_eq_true rfl) fl_X9_102 rfl rfl dX9_advance_44 ?_
        refine s_callVi B hsc (c_X9_byteAt l D g b (upd (upd I 14 (nI begins_1)) 15 (nI begins_1)) W n p0 t q mm bd a_tape begins_1 (by omega) (by omega) (by omega) (by omega) (by omega) (by omega) (by first | assumption | decide | (intro h9; first | assumption | exact absurd h9 (by decide)) | omega | rfl | (refine ⟨_, ?_, by assumption⟩; omega) | (clear hQ B hr hsc; grind))) (gw_V ml_X9_105 im_yX9_byteAt se_yX9_byteAt ini_RX9 co_yX9_byteAt) hd_X9_byteAt rfl rfl ⟨(Nat.le_of_ble_eq_true rfl), (Nat.le_of_ble_eq_true rfl)⟩ [0, 1] [0, 1, 2, 3, 4] rfl rfl rfl (ci := 9) (q0 := 0) rfl rfl rfl rfl rfl (Nat.le_of_ble_eq_true rfl) dX9_advance_47 (fun r_6 u_7 hpo => ?_)
        obtain ⟨rfl, rfl⟩ := hpo
        refine s_st (st' := [.int (mByte t a_tape begins_1)]) rfl ?_
        refine s_ws (ws' := [(b 0, .inr (9, [.int (nI n), .ref (b 1), .ref (b 2), .int (nI p0), .ref (b 3), .ref (b 4), .ref (b 5), .ref (b 6), .ref (b 7), .ref (b 8), .int (I 10), .ref (b 9), .int (nI t), .int (I 13), .int (nI begins_1), .int (nI begins_1), .long W, .int (I 17), .int (I 18), .int (I 19), .int (I 20), .ref (b 10), .ref (b 11), .ref (b 12), .ref (b 13), .ref (b 14), .ref (b 15), .int (nI q), .int (nI mm), .ref (b 16), .ref (b 17), .ref (b 18), .ref (b 19), .ref (b 20), .ref (b 21), .int (I 35), .int (I 36), .int (I 37), .ref (b 22), .int (nI bd), .int (I 40), .int (I 41), .ref (b 23), .int (I 43), .ref (b 24)])), (b 9, .inl (g 0, 240, .inl a_tape))]) rfl ?_
        refine s_istore_n (lv' := [(1, _), (0, _)]) B dX9_advance_50 rfl (Nat.le_of_ble_eq_true rfl) rfl ?_
        refine s_aload_n B dX9_advance_51 rfl 1 rfl ?_
        refine s_iload_n B dX9_advance_52 rfl 0 rfl ?_
        refine s_if_ge (tgt := 60) B dX9_advance_53 rfl (fun h53 => ?_) (fun h53 => ?_)
        · have hin_8 : begins_1 < t := mByte_in (tp := a_tape) (fun e => by rw [e] at h53; revert h53; decide)
          refine s_iload_n B dX9_advance_60 rfl 0 rfl ?_
          refine s_callSi B hsc (c_X9_isLetter l D g (mByte t a_tape begins_1)) (gw_S ml_X9_109 sm_yX9_isLetter ini_RX9 co_yX9_isLetter) hd_X9_isLetter rfl rfl ⟨(Nat.le_of_ble_eq_true rfl), (Nat.le_of_ble_eq_true rfl)⟩ [] [0, 1, 2, 3, 4] rfl rfl rfl rfl rfl (Nat.le_of_ble_eq_true rfl) dX9_advance_61 (fun r_9 u_10 hpo => ?_)
          obtain ⟨rfl, rfl⟩ := hpo
          refine s_st (st' := [.int (if ¬ (mByte t a_tape begins_1) < 97 ∧ ¬ 122 < (mByte t a_tape begins_1) then 1 else 0), .ref (b 0)]) rfl ?_
          refine s_ws (ws' := [(b 0, .inr (9, [.int (nI n), .ref (b 1), .ref (b 2), .int (nI p0), .ref (b 3), .ref (b 4), .ref (b 5), .ref (b 6), .ref (b 7), .ref (b 8), .int (I 10), .ref (b 9), .int (nI t), .int (I 13), .int (nI begins_1), .int (nI begins_1), .long W, .int (I 17), .int (I 18), .int (I 19), .int (I 20), .ref (b 10), .ref (b 11), .ref (b 12), .ref (b 13), .ref (b 14), .ref (b 15), .int (nI q), .int (nI mm), .ref (b 16), .ref (b 17), .ref (b 18), .ref (b 19), .ref (b 20), .ref (b 21), .int (I 35), .int (I 36), .int (I 37), .ref (b 22), .int (nI bd), .int (I 40), .int (I 41), .ref (b 23), .int (I 43), .ref (b 24)])), (b 9, .inl (g 0, 240, .inl a_tape))]) rfl ?_
          refine s_bif_eq (tgt := 71) B dX9_advance_64 rfl (fun h64 => ?_) (fun h64 => ?_)
          · refine s_iload_n B dX9_advance_71 rfl 0 rfl ?_
            refine s_callSi B hsc (c_X9_isDigit l D g (mByte t a_tape begins_1)) (gw_S ml_X9_113 sm_yX9_isDigit ini_RX9 co_yX9_isDigit) hd_X9_isDigit rfl rfl ⟨(Nat.le_of_ble_eq_true rfl), (Nat.le_of_ble_eq_true rfl)⟩ [] [0, 1, 2, 3, 4] rfl rfl rfl rfl rfl (Nat.le_of_ble_eq_true rfl) dX9_advance_72 (fun r_11 u_12 hpo => ?_)
            obtain ⟨rfl, rfl⟩ := hpo
            refine s_st (st' := [.int (if ¬ (mByte t a_tape begins_1) < 48 ∧ ¬ 57 < (mByte t a_tape begins_1) then 1 else 0), .ref (b 0)]) rfl ?_
            refine s_ws (ws' := [(b 0, .inr (9, [.int (nI n), .ref (b 1), .ref (b 2), .int (nI p0), .ref (b 3), .ref (b 4), .ref (b 5), .ref (b 6), .ref (b 7), .ref (b 8), .int (I 10), .ref (b 9), .int (nI t), .int (I 13), .int (nI begins_1), .int (nI begins_1), .long W, .int (I 17), .int (I 18), .int (I 19), .int (I 20), .ref (b 10), .ref (b 11), .ref (b 12), .ref (b 13), .ref (b 14), .ref (b 15), .int (nI q), .int (nI mm), .ref (b 16), .ref (b 17), .ref (b 18), .ref (b 19), .ref (b 20), .ref (b 21), .int (I 35), .int (I 36), .int (I 37), .ref (b 22), .int (nI bd), .int (I 40), .int (I 41), .ref (b 23), .int (I 43), .ref (b 24)])), (b 9, .inl (g 0, 240, .inl a_tape))]) rfl ?_
            refine s_bif_eq (tgt := 82) B dX9_advance_75 rfl (fun h75 => ?_) (fun h75 => ?_)
            · refine s_iconst B dX9_advance_82 ic_3 ?_
              refine s_put (T := TX9) (ws' := [_, _]) B inX9 tyX9_ok nmX9 0 rfl rfl 13 (Nat.le_of_ble_eq_true rfl) fl_X9_116 rfl rfl rfl rfl (Nat.le_of_ble_eq_true rfl) rfl dX9_advance_83 ?_
              refine s_aload_n B dX9_advance_86 rfl 1 rfl ?_
              refine s_lconst B dX9_advance_87 lc_0 ?_
              refine s_put (T := TX9) (ws' := [_, _]) B inX9 tyX9_ok nmX9 0 rfl rfl 16 (Nat.le_of_ble_eq_true rfl) fl_X9_119 rfl rfl rfl rfl (Nat.le_of_ble_eq_true rfl) rfl dX9_advance_88 ?_
              refine s_aload_n B dX9_advance_91 rfl 1 rfl ?_
              refine s_aload_n B dX9_advance_92 rfl 1 rfl ?_
              refine s_get (T := TX9) B inX9 0 rfl rfl 13 (Nat.le_of_ble_eq_true rfl) fl_X9_116 rfl rfl dX9_advance_93 ?_
              refine s_iconst B dX9_advance_96 ic_2 ?_
              refine s_icmp_ne (tgt := 104) B dX9_advance_97 rfl (fun h97 => ?_) (fun h0 => absurd h0 (by decide))
              refine s_iload_n B dX9_advance_104 rfl 0 rfl ?_
              refine s_put (T := TX9) (ws' := [_, _]) B inX9 tyX9_ok nmX9 0 rfl rfl 17 (Nat.le_of_ble_eq_true rfl) fl_X9_123 rfl rfl rfl rfl (Nat.le_of_ble_eq_true rfl) rfl dX9_advance_105 ?_
              refine s_aload_n B dX9_advance_108 rfl 1 rfl ?_
              refine s_get (T := TX9) B inX9 0 rfl rfl 13 (Nat.le_of_ble_eq_true rfl) fl_X9_116 rfl rfl dX9_advance_109 ?_
              refine s_iconst B dX9_advance_112 ic_3 ?_
              refine s_icmp_ne (tgt := 126) B dX9_advance_113 rfl (fun h0 => absurd h0 (by decide)) (fun h113 => ?_)
              refine s_aload_n B dX9_advance_116 rfl 1 rfl ?_
              refine s_dup B dX9_advance_117 rfl ?_
              refine s_get (T := TX9) B inX9 0 rfl rfl 15 (Nat.le_of_ble_eq_true rfl) fl_X9_99 rfl rfl dX9_advance_118 ?_
              refine s_iconst B dX9_advance_121 ic_1 ?_
              refine s_iaddE B dX9_advance_122 (nI_add begins_1 1) ?_
              refine s_put (T := TX9) (ws' := [_, _]) B inX9 tyX9_ok nmX9 0 rfl rfl 15 (Nat.le_of_ble_eq_true rfl) fl_X9_99 rfl rfl rfl rfl (Nat.le_of_ble_eq_true rfl) rfl dX9_advance_123 ?_
              refine s_lv (lv' := [(0, _)]) [1] rfl ?_
              exact L126 _ 3 (begins_1 + 1) 0 (mByte t a_tape begins_1) (Nat.lt_succ_self _) hpre0 hpre1 hj_2 hK_3 h18 (by omega) (by first | assumption | exact TA_i0 (Int32.not_le.mp (by assumption)) | exact TA_i1 (by assumption) | exact TA_i2 (by assumption) | exact TA_i3 (Int32.not_lt.mpr (by assumption)) (by assumption) (by assumption))
            · refine s_iconst B dX9_advance_78 ic_2 ?_
              refine s_goto (tgt := 83) B dX9_advance_79 rfl ?_
              refine s_put (T := TX9) (ws' := [_, _]) B inX9 tyX9_ok nmX9 0 rfl rfl 13 (Nat.le_of_ble_eq_true rfl) fl_X9_116 rfl rfl rfl rfl (Nat.le_of_ble_eq_true rfl) rfl dX9_advance_83 ?_
              refine s_aload_n B dX9_advance_86 rfl 1 rfl ?_
              refine s_lconst B dX9_advance_87 lc_0 ?_
              refine s_put (T := TX9) (ws' := [_, _]) B inX9 tyX9_ok nmX9 0 rfl rfl 16 (Nat.le_of_ble_eq_true rfl) fl_X9_119 rfl rfl rfl rfl (Nat.le_of_ble_eq_true rfl) rfl dX9_advance_88 ?_
              refine s_aload_n B dX9_advance_91 rfl 1 rfl ?_
              refine s_aload_n B dX9_advance_92 rfl 1 rfl ?_
              refine s_get (T := TX9) B inX9 0 rfl rfl 13 (Nat.le_of_ble_eq_true rfl) fl_X9_116 rfl rfl dX9_advance_93 ?_
              refine s_iconst B dX9_advance_96 ic_2 ?_
              refine s_icmp_ne (tgt := 104) B dX9_advance_97 rfl (fun h0 => absurd h0 (by decide)) (fun h97 => ?_)
              refine s_iconst B dX9_advance_100 ic_0 ?_
              refine s_goto (tgt := 105) B dX9_advance_101 rfl ?_
              refine s_put (T := TX9) (ws' := [_, _]) B inX9 tyX9_ok nmX9 0 rfl rfl 17 (Nat.le_of_ble_eq_true rfl) fl_X9_123 rfl rfl rfl rfl (Nat.le_of_ble_eq_true rfl) rfl dX9_advance_105 ?_
              refine s_aload_n B dX9_advance_108 rfl 1 rfl ?_
              refine s_get (T := TX9) B inX9 0 rfl rfl 13 (Nat.le_of_ble_eq_true rfl) fl_X9_116 rfl rfl dX9_advance_109 ?_
              refine s_iconst B dX9_advance_112 ic_3 ?_
              refine s_icmp_ne (tgt := 126) B dX9_advance_113 rfl (fun h113 => ?_) (fun h0 => absurd h0 (by decide))
              refine s_lv (lv' := [(0, _)]) [1] rfl ?_
              exact L126 _ 2 begins_1 0 0 (Nat.lt_succ_self _) hpre0 hpre1 hj_2 hK_3 h18 (by omega) (by first | assumption | exact TA_i0 (Int32.not_le.mp (by assumption)) | exact TA_i1 (by assumption) | exact TA_i2 (by assumption) | exact TA_i3 (Int32.not_lt.mpr (by assumption)) (by assumption) (by assumption))
          · refine s_iconst B dX9_advance_67 ic_1 ?_
            refine s_goto (tgt := 83) B dX9_advance_68 rfl ?_
            refine s_put (T := TX9) (ws' := [_, _]) B inX9 tyX9_ok nmX9 0 rfl rfl 13 (Nat.le_of_ble_eq_true rfl) fl_X9_116 rfl rfl rfl rfl (Nat.le_of_ble_eq_true rfl) rfl dX9_advance_83 ?_
            refine s_aload_n B dX9_advance_86 rfl 1 rfl ?_
            refine s_lconst B dX9_advance_87 lc_0 ?_
            refine s_put (T := TX9) (ws' := [_, _]) B inX9 tyX9_ok nmX9 0 rfl rfl 16 (Nat.le_of_ble_eq_true rfl) fl_X9_119 rfl rfl rfl rfl (Nat.le_of_ble_eq_true rfl) rfl dX9_advance_88 ?_
            refine s_aload_n B dX9_advance_91 rfl 1 rfl ?_
            refine s_aload_n B dX9_advance_92 rfl 1 rfl ?_
            refine s_get (T := TX9) B inX9 0 rfl rfl 13 (Nat.le_of_ble_eq_true rfl) fl_X9_116 rfl rfl dX9_advance_93 ?_
            refine s_iconst B dX9_advance_96 ic_2 ?_
            refine s_icmp_ne (tgt := 104) B dX9_advance_97 rfl (fun h97 => ?_) (fun h0 => absurd h0 (by decide))
            refine s_iload_n B dX9_advance_104 rfl 0 rfl ?_
            refine s_put (T := TX9) (ws' := [_, _]) B inX9 tyX9_ok nmX9 0 rfl rfl 17 (Nat.le_of_ble_eq_true rfl) fl_X9_123 rfl rfl rfl rfl (Nat.le_of_ble_eq_true rfl) rfl dX9_advance_105 ?_
            refine s_aload_n B dX9_advance_108 rfl 1 rfl ?_
            refine s_get (T := TX9) B inX9 0 rfl rfl 13 (Nat.le_of_ble_eq_true rfl) fl_X9_116 rfl rfl dX9_advance_109 ?_
            refine s_iconst B dX9_advance_112 ic_3 ?_
            refine s_icmp_ne (tgt := 126) B dX9_advance_113 rfl (fun h113 => ?_) (fun h0 => absurd h0 (by decide))
            refine s_lv (lv' := [(0, _)]) [1] rfl ?_
            exact L126 _ 1 begins_1 0 (mByte t a_tape begins_1) (Nat.lt_succ_self _) hpre0 hpre1 hj_2 hK_3 h18 (by omega) (by first | assumption | exact TA_i0 (Int32.not_le.mp (by assumption)) | exact TA_i1 (by assumption) | exact TA_i2 (by assumption) | exact TA_i3 (Int32.not_lt.mpr (by assumption)) (by assumption) (by assumption))
        · refine s_iconst B dX9_advance_56 ic_0 ?_
          refine s_goto (tgt := 83) B dX9_advance_57 rfl ?_
          refine s_put (T := TX9) (ws' := [_, _]) B inX9 tyX9_ok nmX9 0 rfl rfl 13 (Nat.le_of_ble_eq_true rfl) fl_X9_116 rfl rfl rfl rfl (Nat.le_of_ble_eq_true rfl) rfl dX9_advance_83 ?_
          refine s_aload_n B dX9_advance_86 rfl 1 rfl ?_
          refine s_lconst B dX9_advance_87 lc_0 ?_
          refine s_put (T := TX9) (ws' := [_, _]) B inX9 tyX9_ok nmX9 0 rfl rfl 16 (Nat.le_of_ble_eq_true rfl) fl_X9_119 rfl rfl rfl rfl (Nat.le_of_ble_eq_true rfl) rfl dX9_advance_88 ?_
          refine s_aload_n B dX9_advance_91 rfl 1 rfl ?_
          refine s_aload_n B dX9_advance_92 rfl 1 rfl ?_
          refine s_get (T := TX9) B inX9 0 rfl rfl 13 (Nat.le_of_ble_eq_true rfl) fl_X9_116 rfl rfl dX9_advance_93 ?_
          refine s_iconst B dX9_advance_96 ic_2 ?_
          refine s_icmp_ne (tgt := 104) B dX9_advance_97 rfl (fun h97 => ?_) (fun h0 => absurd h0 (by decide))
          refine s_iload_n B dX9_advance_104 rfl 0 rfl ?_
          refine s_put (T := TX9) (ws' := [_, _]) B inX9 tyX9_ok nmX9 0 rfl rfl 17 (Nat.le_of_ble_eq_true rfl) fl_X9_123 rfl rfl rfl rfl (Nat.le_of_ble_eq_true rfl) rfl dX9_advance_105 ?_
          refine s_aload_n B dX9_advance_108 rfl 1 rfl ?_
          refine s_get (T := TX9) B inX9 0 rfl rfl 13 (Nat.le_of_ble_eq_true rfl) fl_X9_116 rfl rfl dX9_advance_109 ?_
          refine s_iconst B dX9_advance_112 ic_3 ?_
          refine s_icmp_ne (tgt := 126) B dX9_advance_113 rfl (fun h113 => ?_) (fun h0 => absurd h0 (by decide))
          refine s_lv (lv' := [(0, _)]) [1] rfl ?_
          exact L126 _ 0 begins_1 0 (mByte t a_tape begins_1) (Nat.lt_succ_self _) hpre0 hpre1 hj_2 hK_3 h18 (by omega) (by first | assumption | exact TA_i0 (Int32.not_le.mp (by assumption)) | exact TA_i1 (by assumption) | exact TA_i2 (by assumption) | exact TA_i3 (Int32.not_lt.mpr (by assumption)) (by assumption) (by assumption))
      · have hin_13 : begins_1 < t := mByte_in (tp := a_tape) (fun e => by rw [e] at h18; revert h18; decide)
        refine s_aload_n B dX9_advance_21 rfl 0 rfl ?_
        refine s_dup B dX9_advance_22 rfl ?_
        refine s_get (T := TX9) B inX9 0 rfl rfl 14 (Nat.le_of_ble_eq_true rfl) fl_X9_102 rfl rfl dX9_advance_23 ?_
        refine s_iconst B dX9_advance_26 ic_1 ?_
        refine s_iaddE B dX9_advance_27 (nI_add begins_1 1) ?_
        refine s_put (T := TX9) (ws' := [_, _]) B inX9 tyX9_ok nmX9 0 rfl rfl 14 (Nat.le_of_ble_eq_true rfl) fl_X9_102 rfl rfl rfl rfl (Nat.le_of_ble_eq_true rfl) rfl dX9_advance_28 ?_
        refine s_goto (tgt := 8) B dX9_advance_31 rfl ?_
        refine s_lv (lv' := [(0, _)]) [0] rfl ?_
        exact ih8 (begins_1 + 1) (by omega) hpre0 hpre1 (by omega) (by first | exact rfl | exact Eq.trans (by assumption) (mSk_sb (by assumption) (by assumption)))
  refine s_aload_n B dX9_advance_0 rfl 0 rfl ?_
  refine s_aload_n B dX9_advance_1 rfl 0 rfl ?_
  refine s_get (T := TX9) B inX9 0 rfl rfl 15 (Nat.le_of_ble_eq_true rfl) fl_X9_99 rfl rfl dX9_advance_2 ?_
  refine s_put (T := TX9) (ws' := [_, _]) B inX9 tyX9_ok nmX9 0 rfl rfl 14 (Nat.le_of_ble_eq_true rfl) fl_X9_102 rfl rfl rfl rfl (Nat.le_of_ble_eq_true rfl) rfl dX9_advance_5 ?_
  refine s_lv (lv' := [(0, _)]) [0] rfl ?_
  exact L8 _ te (Nat.lt_succ_self _) hpre0 hpre1 (by omega) (by first | exact rfl | exact Eq.trans (by assumption) (mSk_sb (by assumption) (by assumption)))
