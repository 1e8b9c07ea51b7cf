theorem or_b1 {x : Int32} {k : Nat} (h : x.toBitVec.toNat < 256) (hk : k < 8) : (x ||| ((1 : Int32) <<< (nI k &&& 31))).toBitVec.toNat < 256 := by
  have h1 : ∀ k, k < 8 → ((1 : Int32) <<< (nI k &&& 31)).toBitVec.toNat < 256 := by decide
  rw [Int32.toBitVec_or, BitVec.toNat_or]
  exact Nat.or_lt_two_pow (n := 8) h (h1 k hk)
theorem or_b0 {x : Int32} (h : x.toBitVec.toNat < 256) : (x ||| 0).toBitVec.toNat < 256 := by rw [Int32.or_zero]; exact h
theorem and_mod (k : Nat) : nI k &&& 31 = nI (k % 32) := by
  apply Int32.toBitVec_inj.mp
  apply BitVec.eq_of_toNat_eq
  rw [Int32.toBitVec_and, BitVec.toNat_and]
  show (Int32.ofNat k).toBitVec.toNat &&& 31 = (Int32.ofNat (k % 32)).toBitVec.toNat
  have h1 : ∀ j : Nat, (Int32.ofNat j).toBitVec.toNat = j % 2 ^ 32 := fun j => by
    show (BitVec.ofNat 32 j).toNat = _
    rw [BitVec.toNat_ofNat]
  rw [h1, h1, show (31 : Nat) = 2 ^ 5 - 1 from rfl, Nat.and_two_pow_sub_one_eq_mod]
  omega
/-- a set of children that isn't empty has one -/
theorem set_has {x : Int32} (h : x.toBitVec.toNat < 256) (h0 : ¬ x = 0) : ∃ i, i < 8 ∧ ¬ (x >>> (nI i &&& 31)) &&& 1 = 0 := by
  have h1 : ∀ m : Nat, m < 256 → ¬ m = 0 → ∃ i, i < 8 ∧ ¬ ((nI m) >>> (nI i &&& 31)) &&& 1 = 0 := by decide +kernel
  have h2 : x = nI x.toBitVec.toNat := by
    apply Int32.toBitVec_inj.mp
    apply BitVec.eq_of_toNat_eq
    show _ = (BitVec.ofNat 32 _).toNat
    rw [BitVec.toNat_ofNat]; omega
  rw [h2]
  exact h1 _ h (fun e => h0 (by rw [h2, e]; rfl))
theorem rem_nat {x : Int32} {c : Nat} (h0 : 0 ≤ x) (hc : 1 ≤ c) (hc2 : c < 256) : ∃ k, k < 256 ∧ x - x / nI c * nI c = nI k := by
  have hx : 0 ≤ x.toInt := by rw [Int32.le_iff_toInt_le] at h0; exact h0
  have hn : (nI c).toInt = (c : Int) := nI_toInt (by omega)
  have hd : (x / nI c).toInt = x.toInt / c := by
    rw [Int32.toInt_div, hn, Int.tdiv_eq_ediv_of_nonneg hx]
    have h3 := x.toInt_lt
    have h4 : x.toInt / c ≤ x.toInt := Int.ediv_le_self _ hx
    have h5 : 0 ≤ x.toInt / c := Int.ediv_nonneg hx (by omega)
    apply Int.bmod_eq_of_le <;> omega
  have hm : (x / nI c * nI c).toInt = x.toInt / c * c := by
    rw [Int32.toInt_mul, hd, hn]
    have h3 := x.toInt_lt
    have h4 : x.toInt / c * c ≤ x.toInt := Int.ediv_mul_le _ (by omega)
    have h5 : 0 ≤ x.toInt / c * c := Int.mul_nonneg (Int.ediv_nonneg hx (by omega)) (by omega)
    apply Int.bmod_eq_of_le <;> omega
  have hs : (x - x / nI c * nI c).toInt = x.toInt % c := by
    rw [Int32.toInt_sub, hm]
    have h6 : x.toInt - x.toInt / c * c = x.toInt % c := by rw [Int.emod_def, Int.mul_comm]
    rw [h6]
    have h7 := Int.emod_nonneg x.toInt (show (c : Int) ≠ 0 by omega)
    have h8 := Int.emod_lt_of_pos x.toInt (show (0 : Int) < c by omega)
    apply Int.bmod_eq_of_le <;> omega
  refine ⟨(x.toInt % c).toNat, ?_, ?_⟩
  · have h7 := Int.emod_nonneg x.toInt (show (c : Int) ≠ 0 by omega)
    have h8 := Int.emod_lt_of_pos x.toInt (show (0 : Int) < c by omega)
    omega
  · have h7 := Int.emod_nonneg x.toInt (show (c : Int) ≠ 0 by omega)
    have h8 := Int.emod_lt_of_pos x.toInt (show (0 : Int) < c by omega)
    apply Int32.toInt_inj.mp
    rw [hs, nI_toInt (by omega)]; omega
theorem ushr_pos (z : Int32) : 0 ≤ mUshr z 16 := by
  unfold mUshr
  rw [Int32.le_iff_toInt_le]
  show (0 : Int) ≤ _
  have h1 : (z.toUInt32 >>> (Int32.toUInt32 16 &&& Int32.toUInt32 31)).toInt32.toBitVec = z.toBitVec >>> 16 := rfl
  rw [show (z.toUInt32 >>> (Int32.toUInt32 16 &&& Int32.toUInt32 31)).toInt32.toInt = (z.toBitVec >>> 16).toInt from rfl]
  rw [BitVec.toInt_eq_toNat_of_lt]
  · omega
  · rw [BitVec.toNat_ushiftRight, Nat.shiftRight_eq_div_pow]
    have := z.toBitVec.isLt
    omega
theorem nI_nz {c : Nat} (h1 : 1 ≤ c) (h2 : c < 256) : ¬ nI c = 0 := fun e => by
  have h3 := (nI_eq (a := c) (b := 0) (by omega) (by omega)).mp e
  omega
theorem bit_sub {k : Nat} {b : Int32} (hk : 1 ≤ k) (hb : ¬ b = 0) (h1 : b = 0 ∨ b = 1) : nI k - b = nI (k - 1) := by
  rcases h1 with h | h
  · exact absurd h hb
  · rw [h, show k = (k - 1) + 1 by omega, nI_succ, Int32.add_sub_cancel]; rfl
def mvK (kp : Int32) (mv : Nat) (f kr : Nat → Int32) (k : Nat) : Nat → Int32 := fun j => if ¬ kp = 0 ∧ mv ≤ j ∧ j < mv + k then f (j - mv) else kr j
def mvF (kp : Int32) (mv : Nat) (f kr : Nat → Int32) (k : Nat) : Nat → Int32 := fun j => if kp = 0 ∧ j < k then kr (mv + j) else f j
theorem mvK_0 {kp : Int32} {mv : Nat} {f kr : Nat → Int32} : mvK kp mv f kr 0 = kr := by
  funext j; unfold mvK; rw [if_neg]; omega
theorem mvF_0 {kp : Int32} {mv : Nat} {f kr : Nat → Int32} : mvF kp mv f kr 0 = f := by
  funext j; unfold mvF; rw [if_neg]; omega
theorem mvF_k {kp : Int32} (h : ¬ kp = 0) {mv : Nat} {f kr : Nat → Int32} {k : Nat} : mvF kp mv f kr k = f := by
  funext j; unfold mvF; rw [if_neg]; exact fun e => h e.1
theorem mvK_f {kp : Int32} (h : kp = 0) {mv : Nat} {f kr : Nat → Int32} {k : Nat} : mvK kp mv f kr k = kr := by
  funext j; unfold mvK; rw [if_neg]; exact fun e => e.1 h
theorem mvK_s {kp : Int32} (h : ¬ kp = 0) {mv : Nat} {f kr : Nat → Int32} {k : Nat} : upd (mvK kp mv f kr k) (mv + k) (mvF kp mv f kr k k) = mvK kp mv f kr (k + 1) := by
  rw [mvF_k h]
  funext j
  by_cases e : j = mv + k
  · subst e; rw [upd_is]; unfold mvK; rw [if_pos ⟨h, by omega, by omega⟩, show mv + k - mv = k by omega]
  · rw [upd_ne _ _ e]; unfold mvK
    by_cases e2 : mv ≤ j ∧ j < mv + k
    · rw [if_pos ⟨h, e2⟩, if_pos ⟨h, e2.1, by omega⟩]
    · rw [if_neg (fun x => e2 x.2), if_neg (fun x => e2 ⟨x.2.1, by omega⟩)]
theorem mvF_s {kp : Int32} (h : kp = 0) {mv : Nat} {f kr : Nat → Int32} {k : Nat} : upd (mvF kp mv f kr k) k (mvK kp mv f kr k (mv + k)) = mvF kp mv f kr (k + 1) := by
  rw [mvK_f h]
  funext j
  by_cases e : j = k
  · subst e; rw [upd_is]; unfold mvF; rw [if_pos ⟨h, by omega⟩]
  · rw [upd_ne _ _ e]; unfold mvF
    by_cases e2 : j < k
    · rw [if_pos ⟨h, e2⟩, if_pos ⟨h, by omega⟩]
    · rw [if_neg (fun x => e2 x.2), if_neg (fun x => e2 (by omega))]
def rmX9_moveRow : Room := { frames := 0, cells := 0, slots := 0, locals := 0 }
theorem hd_X9_moveRow : yX9_moveRow.cls = RX9 ∧ yX9_moveRow.cls ≠ "java/lang/invoke/MethodHandle" ∧ yX9_moveRow.cls ≠ "java/lang/invoke/VarHandle" ∧ (parseMethodDescriptor yX9_moveRow.desc).map (fun d => d.parameters.length) = some 3 := by decide +kernel
set_option maxHeartbeats 4000000 in
set_option maxRecDepth 100000 in
theorem c_X9_moveRow (l : Launch) (D : va_G) (g : Nat → ClassId) (b : Nat → Nat) (I : Nat → Int32) (W : Int64) (n p0 t q mm bd mv : Nat) (a_keptRow : Nat → Int32) (fa N n1 : Nat) (f : Nat → Int32) (kp : Int32) (hN : N < 1000) (hn1 : n1 ≤ N) (hmv : mv + n1 ≤ 190) : Cv l yX9_moveRow (WW yX9_moveRow cX9_moveRow 5 none) rmX9_moveRow D vwCl (TY g) [.ref (b 0), .ref fa, .int (nI n1), .int kp] [(b 0, .inr (9, [.int (nI n), .ref (b 1), .ref (b 2), .int (nI p0), .ref (b 3), .ref (b 4), .ref (b 5), .ref (b 6), .ref (b 7), .ref (b 8), .int (I 10), .ref (b 9), .int (nI t), .int (I 13), .int (I 14), .int (I 15), .long W, .int (I 17), .int (I 18), .int (I 19), .int (I 20), .ref (b 10), .ref (b 11), .ref (b 12), .ref (b 13), .ref (b 14), .ref (b 15), .int (nI q), .int (nI mm), .ref (b 16), .ref (b 17), .ref (b 18), .ref (b 19), .ref (b 20), .ref (b 21), .int (I 35), .int (I 36), .int (I 37), .ref (b 22), .int (nI bd), .int (I 40), .int (I 41), .ref (b 23), .int (nI mv), .ref (b 24)])), (b 23, .inl (g 0, 190, .inl a_keptRow)), (fa, .inl (g 0, N, .inl f))] (fun u => u = [(b 0, .inr (9, [.int (nI n), .ref (b 1), .ref (b 2), .int (nI p0), .ref (b 3), .ref (b 4), .ref (b 5), .ref (b 6), .ref (b 7), .ref (b 8), .int (I 10), .ref (b 9), .int (nI t), .int (I 13), .int (I 14), .int (I 15), .long W, .int (I 17), .int (I 18), .int (I 19), .int (I 20), .ref (b 10), .ref (b 11), .ref (b 12), .ref (b 13), .ref (b 14), .ref (b 15), .int (nI q), .int (nI mm), .ref (b 16), .ref (b 17), .ref (b 18), .ref (b 19), .ref (b 20), .ref (b 21), .int (I 35), .int (I 36), .int (I 37), .ref (b 22), .int (nI bd), .int (I 40), .int (I 41), .ref (b 23), .int (nI (mv + n1)), .ref (b 24)])), (b 23, .inl (g 0, 190, .inl (mvK kp mv f a_keptRow n1))), (fa, .inl (g 0, N, .inl (mvF kp mv f a_keptRow n1)))]) := by
  refine cv_in (by decide) (Nat.le_of_ble_eq_true rfl) (a0 := [b 0, b 23, fa]) rfl (fun p e s m args below meth c A Q hQ B hr hsc => ?_)
  have L3 : ∀ (jj : Nat) (k : Nat), n1 - k < jj → (k ≤ n1) → Sx p l e rmX9_moveRow s m args below meth c D vwCl A 5 Q 3 [(0, .ref (b 0)), (1, .ref fa), (2, .int (nI n1)), (3, .int kp), (4, .int (nI k))] [] [(b 0, .inr (9, [.int (nI n), .ref (b 1), .ref (b 2), .int (nI p0), .ref (b 3), .ref (b 4), .ref (b 5), .ref (b 6), .ref (b 7), .ref (b 8), .int (I 10), .ref (b 9), .int (nI t), .int (I 13), .int (I 14), .int (I 15), .long W, .int (I 17), .int (I 18), .int (I 19), .int (I 20), .ref (b 10), .ref (b 11), .ref (b 12), .ref (b 13), .ref (b 14), .ref (b 15), .int (nI q), .int (nI mm), .ref (b 16), .ref (b 17), .ref (b 18), .ref (b 19), .ref (b 20), .ref (b 21), .int (I 35), .int (I 36), .int (I 37), .ref (b 22), .int (nI bd), .int (I 40), .int (I 41), .ref (b 23), .int (nI (mv + k)), .ref (b 24)])), (b 23, .inl (g 0, 190, .inl (mvK kp mv f a_keptRow k))), (fa, .inl (g 0, N, .inl (mvF kp mv f a_keptRow k)))] := by
    intro jj
    induction jj with
    | zero => intro k hj; exact absurd hj (Nat.not_lt_zero _)
    | succ jj ih =>
      intro k hj hk
      refine s_iload B dX9_moveRow_3 4 rfl ?_
      refine s_iload_n B dX9_moveRow_5 rfl 2 rfl ?_
      refine s_icmp_ge (tgt := 58) B dX9_moveRow_6 rfl (fun h6 => ?_) (fun h6 => ?_)
      · replace h6 : n1 ≤ k := (nI_leI (a := n1) (b := k) (by omega) (by omega)).mp h6
        refine s_vret B hQ hr dX9_moveRow_58 rfl ?_
        have e9 : k = n1 := by omega
        subst e9
        rfl
      · replace h6 : ¬ n1 ≤ k := fun hh => h6 ((nI_leI (a := n1) (b := k) (by omega) (by omega)).mpr hh)
        refine s_iload_n B dX9_moveRow_9 rfl 3 rfl ?_
        refine s_if_eq (tgt := 29) B dX9_moveRow_10 rfl (fun h10 => ?_) (fun h10 => ?_)
        · refine s_aload_n B dX9_moveRow_29 rfl 1 rfl ?_
          refine s_iload B dX9_moveRow_30 4 rfl ?_
          refine s_aload_n B dX9_moveRow_32 rfl 0 rfl ?_
          refine s_get (T := TX9) B inX9 0 rfl rfl 42 (Nat.le_of_ble_eq_true rfl) fl_X9_81 rfl rfl dX9_moveRow_33 ?_
          refine s_aload_n B dX9_moveRow_36 rfl 0 rfl ?_
          refine s_get (T := TX9) B inX9 0 rfl rfl 43 (Nat.le_of_ble_eq_true rfl) fl_X9_328 rfl rfl dX9_moveRow_37 ?_
          refine s_ialdN B 1 0 rfl rfl dX9_moveRow_40 (by omega) (by decide) ?_
          refine s_iastN (ws' := [_, _, _]) B 2 0 rfl rfl rfl dX9_moveRow_41 (by omega) (by omega) ?_
          refine s_aload_n B dX9_moveRow_42 rfl 0 rfl ?_
          refine s_dup B dX9_moveRow_43 rfl ?_
          refine s_get (T := TX9) B inX9 0 rfl rfl 43 (Nat.le_of_ble_eq_true rfl) fl_X9_328 rfl rfl dX9_moveRow_44 ?_
          refine s_iconst B dX9_moveRow_47 ic_1 ?_
          refine s_iaddE B dX9_moveRow_48 (nI_add (mv + k) 1) ?_
          refine s_put (T := TX9) (ws' := [_, _, _]) B inX9 tyX9_ok nmX9 0 rfl rfl 43 (Nat.le_of_ble_eq_true rfl) fl_X9_328 rfl rfl rfl rfl (Nat.le_of_ble_eq_true rfl) rfl dX9_moveRow_49 ?_
          refine s_iinc (lv' := [(4, _), (0, _), (1, _), (2, _), (3, _)]) (k := 4) B dX9_moveRow_52 rfl (ii_n _) (Nat.le_of_ble_eq_true rfl) rfl ?_
          refine s_goto (tgt := 3) B dX9_moveRow_55 rfl ?_
          refine s_lv (lv' := [(0, _), (1, _), (2, _), (3, _), (4, _)]) [1, 2, 3, 4, 0] rfl ?_
          refine s_ws (ws' := [(b 0, .inr (9, [.int (nI n), .ref (b 1), .ref (b 2), .int (nI p0), .ref (b 3), .ref (b 4), .ref (b 5), .ref (b 6), .ref (b 7), .ref (b 8), .int (I 10), .ref (b 9), .int (nI t), .int (I 13), .int (I 14), .int (I 15), .long W, .int (I 17), .int (I 18), .int (I 19), .int (I 20), .ref (b 10), .ref (b 11), .ref (b 12), .ref (b 13), .ref (b 14), .ref (b 15), .int (nI q), .int (nI mm), .ref (b 16), .ref (b 17), .ref (b 18), .ref (b 19), .ref (b 20), .ref (b 21), .int (I 35), .int (I 36), .int (I 37), .ref (b 22), .int (nI bd), .int (I 40), .int (I 41), .ref (b 23), .int (nI (mv + (k + 1))), .ref (b 24)])), (b 23, .inl (g 0, 190, .inl (mvK kp mv f a_keptRow (k + 1)))), (fa, .inl (g 0, N, .inl (mvF kp mv f a_keptRow (k + 1))))]) (by first | (rw [mvK_s h10, mvF_k h10, mvF_k h10] <;> rfl) | (rw [mvF_s h10, mvK_f h10, mvK_f h10] <;> rfl)) ?_
          exact ih (k + 1) (by omega) (by omega)
        · refine s_aload_n B dX9_moveRow_13 rfl 0 rfl ?_
          refine s_get (T := TX9) B inX9 0 rfl rfl 42 (Nat.le_of_ble_eq_true rfl) fl_X9_81 rfl rfl dX9_moveRow_14 ?_
          refine s_aload_n B dX9_moveRow_17 rfl 0 rfl ?_
          refine s_get (T := TX9) B inX9 0 rfl rfl 43 (Nat.le_of_ble_eq_true rfl) fl_X9_328 rfl rfl dX9_moveRow_18 ?_
          refine s_aload_n B dX9_moveRow_21 rfl 1 rfl ?_
          refine s_iload B dX9_moveRow_22 4 rfl ?_
          refine s_ialdN B 2 0 rfl rfl dX9_moveRow_24 (by omega) (by omega) ?_
          refine s_iastN (ws' := [_, _, _]) B 1 0 rfl rfl rfl dX9_moveRow_25 (by omega) (by decide) ?_
          refine s_goto (tgt := 42) B dX9_moveRow_26 rfl ?_
          refine s_aload_n B dX9_moveRow_42 rfl 0 rfl ?_
          refine s_dup B dX9_moveRow_43 rfl ?_
          refine s_get (T := TX9) B inX9 0 rfl rfl 43 (Nat.le_of_ble_eq_true rfl) fl_X9_328 rfl rfl dX9_moveRow_44 ?_
          refine s_iconst B dX9_moveRow_47 ic_1 ?_
          refine s_iaddE B dX9_moveRow_48 (nI_add (mv + k) 1) ?_
          refine s_put (T := TX9) (ws' := [_, _, _]) B inX9 tyX9_ok nmX9 0 rfl rfl 43 (Nat.le_of_ble_eq_true rfl) fl_X9_328 rfl rfl rfl rfl (Nat.le_of_ble_eq_true rfl) rfl dX9_moveRow_49 ?_
          refine s_iinc (lv' := [(4, _), (0, _), (1, _), (2, _), (3, _)]) (k := 4) B dX9_moveRow_52 rfl (ii_n _) (Nat.le_of_ble_eq_true rfl) rfl ?_
          refine s_goto (tgt := 3) B dX9_moveRow_55 rfl ?_
          refine s_lv (lv' := [(0, _), (1, _), (2, _), (3, _), (4, _)]) [1, 2, 3, 4, 0] rfl ?_
          refine s_ws (ws' := [(b 0, .inr (9, [.int (nI n), .ref (b 1), .ref (b 2), .int (nI p0), .ref (b 3), .ref (b 4), .ref (b 5), .ref (b 6), .ref (b 7), .ref (b 8), .int (I 10), .ref (b 9), .int (nI t), .int (I 13), .int (I 14), .int (I 15), .long W, .int (I 17), .int (I 18), .int (I 19), .int (I 20), .ref (b 10), .ref (b 11), .ref (b 12), .ref (b 13), .ref (b 14), .ref (b 15), .int (nI q), .int (nI mm), .ref (b 16), .ref (b 17), .ref (b 18), .ref (b 19), .ref (b 20), .ref (b 21), .int (I 35), .int (I 36), .int (I 37), .ref (b 22), .int (nI bd), .int (I 40), .int (I 41), .ref (b 23), .int (nI (mv + (k + 1))), .ref (b 24)])), (b 23, .inl (g 0, 190, .inl (mvK kp mv f a_keptRow (k + 1)))), (fa, .inl (g 0, N, .inl (mvF kp mv f a_keptRow (k + 1))))]) (by first | (rw [mvK_s h10, mvF_k h10, mvF_k h10] <;> rfl) | (rw [mvF_s h10, mvK_f h10, mvK_f h10] <;> rfl)) ?_
          exact ih (k + 1) (by omega) (by omega)
  refine s_iconst B dX9_moveRow_0 ic_0 ?_
  refine s_istore (lv' := [(4, _), (0, _), (1, _), (2, _), (3, _)]) B dX9_moveRow_1 (Nat.le_of_ble_eq_true rfl) rfl ?_
  refine s_lv (lv' := [(0, _), (1, _), (2, _), (3, _), (4, _)]) [1, 2, 3, 4, 0] rfl ?_
  refine s_lve (lv' := [(0, .ref (b 0)), (1, .ref fa), (2, .int (nI n1)), (3, .int kp), (4, .int (nI 0))]) (by rfl) ?_
  refine s_ws (ws' := [(b 0, .inr (9, [.int (nI n), .ref (b 1), .ref (b 2), .int (nI p0), .ref (b 3), .ref (b 4), .ref (b 5), .ref (b 6), .ref (b 7), .ref (b 8), .int (I 10), .ref (b 9), .int (nI t), .int (I 13), .int (I 14), .int (I 15), .long W, .int (I 17), .int (I 18), .int (I 19), .int (I 20), .ref (b 10), .ref (b 11), .ref (b 12), .ref (b 13), .ref (b 14), .ref (b 15), .int (nI q), .int (nI mm), .ref (b 16), .ref (b 17), .ref (b 18), .ref (b 19), .ref (b 20), .ref (b 21), .int (I 35), .int (I 36), .int (I 37), .ref (b 22), .int (nI bd), .int (I 40), .int (I 41), .ref (b 23), .int (nI (mv + 0)), .ref (b 24)])), (b 23, .inl (g 0, 190, .inl (mvK kp mv f a_keptRow 0))), (fa, .inl (g 0, N, .inl (mvF kp mv f a_keptRow 0)))]) (by rw [mvK_0, mvF_0]; rfl) ?_
  exact L3 (n1 + 1) 0 (by omega) (by omega)
