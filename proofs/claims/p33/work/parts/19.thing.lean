/-- the kind above one (0 for the topmost) -/
def mUp (f : Nat) : Nat := ([0, 0, 0, 0, 1, 2] : List Nat).getD f 0
theorem mUp_lt : ∀ f, f < 6 → mUp f < 6 := by decide
theorem mUp_at : ∀ f, f < 6 → ¬ f = 0 → tb_above f = nI (mUp f) := by decide
theorem tb_0 : ∀ a, a < 4 → ¬ tb_bodies a = 0 := by decide
/-- the body of act a that kind f has, or takes from above -/
def mBdy (a : Nat) : Nat → Nat → Int32
  | 0, _ => 0
  | s + 1, f => if tb_bodies (f * 4 + a) = 0 then mBdy a s (mUp f) else tb_bodies (f * 4 + a)
def rmX6_bodyOf : Room := { frames := 1, cells := 0, slots := 0, locals := 20 }
theorem hd_X6_bodyOf : yX6_bodyOf.cls ≠ "java/lang/invoke/MethodHandle" ∧ yX6_bodyOf.cls ≠ "java/lang/invoke/VarHandle" ∧ (parseMethodDescriptor yX6_bodyOf.desc).map (fun d => d.parameters.length) = some 2 := by decide +kernel
set_option maxHeartbeats 4000000 in
set_option maxRecDepth 100000 in
theorem c_X6_bodyOf (l : Launch) (D : va_G) (g : Nat → ClassId) (a f0 : Nat) (ha : a < 4) (hf0 : f0 < 6) : Ci l yX6_bodyOf (WW yX6_bodyOf cX6_bodyOf 5 (some FieldType.int)) rmX6_bodyOf D vwCl (TY g) [.int (nI a), .int (nI f0)] [] (fun r u => r = mBdy a 3 f0 ∧ u = []) := by
  refine ci_in (by decide) (Nat.le_of_ble_eq_true rfl) (a0 := []) rfl (fun p e s m args below meth c A Q hQ B hr hsc => ?_)
  have L4 : ∀ (jj : Nat) (s0 f : Nat), 3 - s0 < jj → (s0 ≤ 3) → (f < 6) → (mBdy a (3 - s0) f = mBdy a 3 f0) → Sx p l e rmX6_bodyOf s m args below meth c D vwCl A 5 Q 4 [(0, .int (nI a)), (1, .int (nI f0)), (2, .int (nI f)), (3, .int (nI s0))] [] [] := by
    intro jj
    induction jj with
    | zero => intro s0 f hj; exact absurd hj (Nat.not_lt_zero _)
    | succ jj ih =>
      intro s0 f hj hs hf hval
      refine s_iload_n B dX6_bodyOf_4 rfl 3 rfl ?_
      refine s_iconst B dX6_bodyOf_5 ic_3 ?_
      refine s_icmp_ge (tgt := 65) B dX6_bodyOf_6 rfl (fun h6 => ?_) (fun h6 => ?_)
      · replace h6 : 3 ≤ s0 := (nI_leI (a := 3) (b := s0) (by omega) (by omega)).mp h6
        refine s_iconst B dX6_bodyOf_65 ic_0 ?_
        refine s_iret B hQ hr dX6_bodyOf_66 rfl ?_
        rw [← hval, show 3 - s0 = 0 by omega]; exact ⟨rfl, rfl⟩
      · replace h6 : ¬ 3 ≤ s0 := fun hh => h6 ((nI_leI (a := 3) (b := s0) (by omega) (by omega)).mpr hh)
        refine s_iload_n B dX6_bodyOf_9 rfl 2 rfl ?_
        refine s_callNi B hsc (c_X8_isKind l D g (nI f)) ml_X6_44 sm_yX8_isKind ini_RX8 co_yX8_isKind hd_X8_isKind rfl rfl ⟨(Nat.le_of_ble_eq_true rfl), (Nat.le_of_ble_eq_true rfl)⟩ [] [0, 1, 2, 3, 4] rfl rfl rfl rfl rfl (Nat.le_of_ble_eq_true rfl) dX6_bodyOf_10 (fun r u hpo => ?_)
        obtain ⟨rfl, rfl⟩ := hpo
        refine s_st (st' := [.int (if ¬ (nI f) < 0 ∧ (nI f) < 6 then 1 else 0)]) rfl ?_
        refine s_ws (ws' := []) rfl ?_
        refine s_bif_eq (tgt := 65) B dX6_bodyOf_13 rfl (fun h13 => ?_) (fun h13 => ?_)
        · refine s_iconst B dX6_bodyOf_65 ic_0 ?_
          refine s_iret B hQ hr dX6_bodyOf_66 rfl ?_
          exfalso; exact h13 ⟨nI_pos (by omega), nI_lt (b := 6) hf (by decide)⟩
        · refine s_iload_n B dX6_bodyOf_16 rfl 2 rfl ?_
          refine s_iconst B dX6_bodyOf_17 ic_4 ?_
          refine s_imulE B dX6_bodyOf_18 (pk_mul f 4) ?_
          refine s_iload_n B dX6_bodyOf_19 rfl 0 rfl ?_
          refine s_iaddE B dX6_bodyOf_20 (nI_add (f * 4) a) ?_
          refine s_istore (lv' := [(4, _), (0, _), (1, _), (2, _), (3, _)]) B dX6_bodyOf_21 (Nat.le_of_ble_eq_true rfl) rfl ?_
          refine s_iload B dX6_bodyOf_23 0 rfl ?_
          refine s_if_lt (tgt := 53) B dX6_bodyOf_25 rfl (fun h0 => (nI_pos (n := f * 4 + a) (by omega) h0).elim) (fun h25 => ?_)
          refine s_iload B dX6_bodyOf_28 0 rfl ?_
          refine s_gets B hsc.2.2.2.2.1 fl_X6_48 dX6_bodyOf_30 (fun t30 hT30 => ?_)
          refine s_tlen B hT30 dX6_bodyOf_33 ?_
          refine s_icmp_ge (tgt := 53) B dX6_bodyOf_34 rfl (fun h0 => (nI_ge (a := f * 4 + a) (b := 24) (by omega) (by decide) h0).elim) (fun h34 => ?_)
          refine s_gets B hsc.2.2.2.2.1 fl_X6_48 dX6_bodyOf_37 (fun t37 hT37 => ?_)
          refine s_iload B dX6_bodyOf_40 0 rfl ?_
          refine s_tiN B hT37 dX6_bodyOf_42 (by omega) (by decide) ?_
          refine s_if_eq (tgt := 53) B dX6_bodyOf_43 rfl (fun h43 => ?_) (fun h43 => ?_)
          · refine s_getsN B hsc.2.2.2.1 hsc.2.2.2.2.2 fl_X6_51 dX6_bodyOf_53 (fun t53 hT53 => ?_)
            refine s_iload_n B dX6_bodyOf_56 rfl 3 rfl ?_
            refine s_tiN B hT53 dX6_bodyOf_57 (by omega) (by decide) ?_
            have hz : ¬ f = 0 := (fun e => tb_0 a ha (by have h9 := h43; rw [e, Nat.zero_mul, Nat.zero_add] at h9; exact h9))
            refine s_st (st' := [.int (nI (mUp f))]) (by rw [mUp_at f hf hz]) ?_
            refine s_istore_n (lv' := [(2, _), (4, _), (0, _), (1, _), (3, _)]) B dX6_bodyOf_58 rfl (Nat.le_of_ble_eq_true rfl) rfl ?_
            refine s_iinc (lv' := [(3, _), (2, _), (4, _), (0, _), (1, _)]) (k := 4) B dX6_bodyOf_59 rfl (ii_n _) (Nat.le_of_ble_eq_true rfl) rfl ?_
            refine s_goto (tgt := 4) B dX6_bodyOf_62 rfl ?_
            refine s_lv (lv' := [(0, _), (1, _), (2, _), (3, _)]) [3, 4, 1, 0] rfl ?_
            exact ih (s0 + 1) (mUp f) (by omega) (by omega) (mUp_lt f hf) (by rw [← hval, show 3 - s0 = (3 - (s0 + 1)) + 1 by omega]; show _ = (if _ then _ else _); rw [if_pos h43])
          · refine s_gets B hsc.2.2.2.2.1 fl_X6_48 dX6_bodyOf_46 (fun t46 hT46 => ?_)
            refine s_iload B dX6_bodyOf_49 0 rfl ?_
            refine s_tiN B hT46 dX6_bodyOf_51 (by omega) (by decide) ?_
            refine s_iret B hQ hr dX6_bodyOf_52 rfl ?_
            rw [← hval]
            have e9 : 3 - s0 = (3 - (s0 + 1)) + 1 := by omega
            rw [e9]; unfold mBdy; rw [if_neg h43]; exact ⟨rfl, rfl⟩
  refine s_iload_n B dX6_bodyOf_0 rfl 1 rfl ?_
  refine s_istore_n (lv' := [(2, _), (0, _), (1, _)]) B dX6_bodyOf_1 rfl (Nat.le_of_ble_eq_true rfl) rfl ?_
  refine s_iconst B dX6_bodyOf_2 ic_0 ?_
  refine s_istore_n (lv' := [(3, _), (2, _), (0, _), (1, _)]) B dX6_bodyOf_3 rfl (Nat.le_of_ble_eq_true rfl) rfl ?_
  refine s_lv (lv' := [(0, _), (1, _), (2, _), (3, _)]) [2, 3, 1, 0] rfl ?_
  refine s_lve (lv' := [(0, .int (nI a)), (1, .int (nI f0)), (2, .int (nI f0)), (3, .int (nI 0))]) (by rfl) ?_
  exact L4 (3 + 1) 0 f0 (by omega) (by omega) hf0 rfl
