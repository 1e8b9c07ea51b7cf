section SXP
variable {p : Program} {l : Launch} {e : Env} {R : Room} {s : State} {m : MethodId} {args : Array Value} {below : List Frame} {meth : Method} {c : Code} {Q : State → Prop} {D : va_G} {cl : List vw_C} {tys tys2 : List (ClassId × FieldType)} {A : Nat → Prop} {nL pc : Nat} {lv : List (Nat × Value)} {st st0 : List Value} {ws sub : va_W} {cc bytes : ByteArray} {own C : String} {y : MethodName} {maxL n index : Nat} {rt : FieldType} {rm : Room} {As : List Value}
/-- a contract of a method that answers a String constant; the world stays -/
def CsP (P : Nat → Prop) (l : Launch) (y : MethodName) (ws : List Cond) (rm : Room) (D : va_G) (cl : List vw_C) (tys : List (ClassId × FieldType)) (av : List Value) (cells : va_W) : Prop :=
  ∀ sz : Nat, Met l y ws rm (CP D cl tys av cells sz) (va_Qr (fun u : va_W => u = cells) (fun u a t => BW D cl (cells.map Prod.fst) u t ∧ ∃ i, i < 13 ∧ P i ∧ a = D.2 100 i) (va_A cells sz)) 0 0 (va_A cells sz)
theorem cs_inP {P : Nat → Prop} {l : Launch} {y : MethodName} {cc : ByteArray} {nL : Nat} {rt : FieldType} {rm : Room} {D : va_G} {cl : List vw_C} {tys : List (ClassId × FieldType)} {av : List Value} {cells : va_W} (hy : plainName y.cls = true) (hlen : (lg_sl av).length ≤ nL)
    (body : ∀ (p : Program) (e : Env) (s : State) (m : MethodId) (args : Array Value) (below : List Frame) (meth : Method) (c : Code) (A : Nat → Prop) (Q : State → Prop), MQ below (va_Qr (fun u : va_W => u = cells) (fun u a t => BW D cl (cells.map Prod.fst) u t ∧ ∃ i, i < 13 ∧ P i ∧ a = D.2 100 i) A) args s 0 0 A = Q → Bs p s m args meth c D cl tys A nL cc y.cls → meth.sig.returnType = some rt → sc D A s s.heap → Sx p l e rm s m args below meth c D cl A nL Q 0 (lv_args 0 av) [] cells) : CsP P l y (WW y cc nL (some rt)) rm D cl tys av cells := by
  intro sz
  refine Met.ofW (cc := cc) (maxL := nL) (ret := some rt) hy rfl ?_
  intro p e s m args below meth c s₁ B hml hv
  obtain ⟨rfl, hsz, hP, hK, hD0, hsc⟩ := hv
  subst hsz
  have hts := atoms_spec (ws := WW y cc nL (some rt)) B.pre
  have hown := findClass_of_methodNamed B.named
  have hD := hD0.self (sz := s.heap.size)
  have hl := lv_entry av (n := nL) hlen
  rw [lg_entry_eq]
  exact body p e s m _ below meth c _ _ rfl ⟨B.exec, B.bytes, hml, hown, fun w hw => hts w (List.mem_cons_of_mem _ hw), hK, B.notSynchronized, fun q h => Or.inr h⟩ B.returns hsc s.heap [] _ hP hD va_S.rf hl
theorem s_callSsP {P : Nat → Prop} (B : Bs p s m args meth c D cl tys A nL cc own) (hsc : sc D A s s.heap) (hM : CsP P l y (WW y bytes maxL (some rt)) rm D cl tys2 As sub) (hT : GoodIn lw_gd (va_wsS own index y (WW y bytes maxL (some rt)))) (hd : y.cls ≠ "java/lang/invoke/MethodHandle" ∧ y.cls ≠ "java/lang/invoke/VarHandle" ∧ (parseMethodDescriptor y.desc).map (fun d => d.parameters.length) = some n) (h0 : rm.cells = 0) (h1 : rm.slots = 0) (hR : rm.frames + 1 ≤ R.frames ∧ 8 + (maxL + 11) + rm.locals ≤ R.locals)
    (is ty : List Nat) (hC : is.map (fun i => ws[i]?) = sub.map some) (hnd : va_nd is = true) (hty : ty.filterMap (fun i => tys[i]?) = tys2) (hn : As.length = n) (hst : st0 = As.reverse ++ st) (hcat : (st.map fun v => v.category).sum ≤ 8) (hdg : decode cc pc = .ok (.invokestatic index, 3))
    (kk : ∀ (i : Nat) (_ : i < 13) (_ : P i), Sx p l e R s m args below meth c D cl A nL Q (pc + 3) lv (.ref (D.2 100 i) :: st) (va_rj ws is sub)) : Sx p l e R s m args below meth c D cl A nL Q pc lv st0 ws := by
  intro H locs ls hP hD hS hl
  have hpre := cp_at (av := As) B hsc hP hD hS is ty hC hnd hty
  have hF := va_free (wc := sub) hD hS B.2.2.2.2.2.2.2 is hC
  subst hst
  refine va_callr (va_runS (As := As) (rest := st) ⟨B.1, B.2.1, B.2.2.1, B.2.2.2.1, B.2.2.2.2.1⟩ (hM H.size) (cw_S B hT hd h0 h1 hR) ⟨cp_blind, hpre⟩ rfl hn hl.1 rfl (lv_room hcat) hdg ⟨Nat.zero_le _, Nat.zero_le _⟩) hS (fun q _ h => hF q h) hF (fun u ra t H1 locs1 ht hvm hpo hB hz hk hS1 => ?_)
  obtain ⟨⟨hP1, hu⟩, i, hi, hpi, rfl⟩ := hB
  subst hpo
  rw [ht] at hP1
  obtain ⟨g1, g2⟩ := rj_to hP hD hC hu hP1 hk
  exact kk i hi hpi H1 locs1 ls g1 g2 hS1 hl
theorem s_aretSP {P : Nat → Prop} (B : Bs p s m args meth c D cl tys A nL cc own) (hQ : MQ below (va_Qr (fun u : va_W => u = ws) (fun u a t => BW D cl (ws.map Prod.fst) u t ∧ ∃ i, i < 13 ∧ P i ∧ a = D.2 100 i) A) args s 0 0 A = Q) {ty : FieldType} (hr : meth.sig.returnType = some ty) (hty : (∃ n, ty = .object n) ∨ ∃ t, ty = .array t) {i : Nat} (hi : i < 13) (hpi : P i) (hdg : decode cc pc = .ok (.areturn, 1)) : Sx p l e R s m args below meth c D cl A nL Q pc lv [.ref (D.2 100 i)] ws := by
  subst hQ
  exact fun H locs ls hP hD hS hl => W.aret B.1 B.2.1 hr hty (Or.inr ⟨_, rfl⟩) (fun t ht hW => ⟨⟨ws, _, rfl, rfl, ⟨by rw [ht]; exact hP, rfl⟩, i, hi, hpi, rfl⟩, hS.F ht⟩) hS.2.2 hdg (hlocks := B.2.2.2.2.2.2.1)
end SXP

theorem nat_lt2 {x : Int32} {N : Nat} (h0 : ¬ x < 0) (h1 : x < nI N) (hN : N < 2 ^ 31) : ∃ k, k < N ∧ x = nI k := by
  rw [Int32.lt_iff_toInt_lt] at h0 h1
  rw [nI_toInt hN] at h1
  have h2 : (0 : Int32).toInt = 0 := by decide
  rw [h2] at h0
  refine ⟨x.toInt.toNat, by omega, ?_⟩
  apply Int32.toInt_inj.mp
  rw [nI_toInt (by omega)]; omega
theorem nat_le2 {x : Int32} {N : Nat} (h0 : ¬ x < 0) (h1 : x ≤ nI N) (hN : N < 2 ^ 31) : ∃ k, k ≤ N ∧ x = nI k := by
  rw [Int32.lt_iff_toInt_lt] at h0
  rw [Int32.le_iff_toInt_le, nI_toInt hN] at h1
  have h2 : (0 : Int32).toInt = 0 := by decide
  rw [h2] at h0
  refine ⟨x.toInt.toNat, by omega, ?_⟩
  apply Int32.toInt_inj.mp
  rw [nI_toInt (by omega)]; omega
theorem len_lt : ∀ {i : Nat}, i < 13 → lenS.getD i 0 < 2 ^ 31 := by
  have h : ∀ i, i < 13 → lenS.getD i 0 < 2 ^ 31 := by decide
  exact fun {i} hi => h i hi
theorem len_8 : ∀ {i : Nat}, i < 13 → lenS.getD i 0 ≤ 8 := by
  have h : ∀ i, i < 13 → lenS.getD i 0 ≤ 8 := by decide
  exact fun {i} hi => h i hi
theorem len_sh : ∀ {i : Nat}, i < 13 → nI (lenS.getD i 0) >>> ((0 : Int32) &&& 31) = nI (lenS.getD i 0) := by
  have h : ∀ i, i < 13 → nI (lenS.getD i 0) >>> ((0 : Int32) &&& 31) = nI (lenS.getD i 0) := by decide
  exact fun {i} hi => h i hi
theorem chS_n : ∀ {i k : Nat}, i < 13 → k < lenS.getD i 0 → narrow .char (.int (chS i k)) = .int (chS i k) := by
  have h : ∀ i, i < 13 → ∀ k, k < 8 → narrow .char (.int (chS i k)) = .int (chS i k) := by decide +kernel
  exact fun {i k} hi hk => h i hi k (Nat.lt_of_lt_of_le hk (len_8 hi))
def rmJ3_checkIndex_8e157 : Room := { frames := 0, cells := 0, slots := 0, locals := 0 }
theorem hd_J3_checkIndex_8e157 : yJ3_checkIndex_8e157.cls ≠ "java/lang/invoke/MethodHandle" ∧ yJ3_checkIndex_8e157.cls ≠ "java/lang/invoke/VarHandle" ∧ (parseMethodDescriptor yJ3_checkIndex_8e157.desc).map (fun d => d.parameters.length) = some 3 := by decide +kernel
set_option maxHeartbeats 4000000 in
set_option maxRecDepth 100000 in
theorem c_J3_checkIndex_null (l : Launch) (D : va_G) (g : Nat → ClassId) (k0 : Nat) (n0 : Nat)  (hk : k0 < n0) (hn0 : n0 < 2 ^ 31) : Ci l yJ3_checkIndex_8e157 (WW yJ3_checkIndex_8e157 cJ3_checkIndex_8e157 3 (some FieldType.int)) rmJ3_checkIndex_8e157 D vwCl (TY g) [.int (nI k0), .int (nI n0), .null] [] (fun r u => r = nI k0 ∧ u = []) := by
  refine ci_in (by decide) (Nat.le_of_ble_eq_true rfl) (a0 := []) rfl (fun p e s m args below meth c A Q hQ B hr hsc => ?_)
  refine s_iload_n B dJ3_checkIndex_8e157_0 rfl 0 rfl ?_
  refine s_if_lt (tgt := 9) B dJ3_checkIndex_8e157_1 rfl (fun h0 => ((nI_pos (n := k0) (by omega)) h0).elim) (fun h1 => ?_)
  refine s_iload_n B dJ3_checkIndex_8e157_4 rfl 0 rfl ?_
  refine s_iload_n B dJ3_checkIndex_8e157_5 rfl 1 rfl ?_
  refine s_icmp_lt (tgt := 16) B dJ3_checkIndex_8e157_6 rfl (fun h6 => ?_) (fun h0 => ((fun hh : ¬ nI k0 < nI n0 => hh (nI_lt (a := k0) (b := n0) hk (by omega))) h0).elim)
  refine s_iload_n B dJ3_checkIndex_8e157_16 rfl 0 rfl ?_
  refine s_iret B hQ hr dJ3_checkIndex_8e157_17 rfl ?_
  exact ⟨by first | assumption | decide | (intro h9; first | assumption | exact absurd h9 (by decide)) | omega | rfl | (refine ⟨_, ?_, by assumption⟩; omega) | (clear hQ B hr hsc; grind), rfl⟩
set_option maxHeartbeats 4000000 in
set_option maxRecDepth 100000 in
theorem c_J3_checkIndex_ref (l : Launch) (D : va_G) (g : Nat → ClassId) (k0 : Nat) (n0 : Nat) (tt : Nat)  (hk : k0 < n0) (hn0 : n0 < 2 ^ 31) : Ci l yJ3_checkIndex_8e157 (WW yJ3_checkIndex_8e157 cJ3_checkIndex_8e157 3 (some FieldType.int)) rmJ3_checkIndex_8e157 D vwCl (TY g) [.int (nI k0), .int (nI n0), .ref tt] [] (fun r u => r = nI k0 ∧ u = []) := by
  refine ci_in (by decide) (Nat.le_of_ble_eq_true rfl) (a0 := []) rfl (fun p e s m args below meth c A Q hQ B hr hsc => ?_)
  refine s_iload_n B dJ3_checkIndex_8e157_0 rfl 0 rfl ?_
  refine s_if_lt (tgt := 9) B dJ3_checkIndex_8e157_1 rfl (fun h0 => ((nI_pos (n := k0) (by omega)) h0).elim) (fun h1 => ?_)
  refine s_iload_n B dJ3_checkIndex_8e157_4 rfl 0 rfl ?_
  refine s_iload_n B dJ3_checkIndex_8e157_5 rfl 1 rfl ?_
  refine s_icmp_lt (tgt := 16) B dJ3_checkIndex_8e157_6 rfl (fun h6 => ?_) (fun h0 => ((fun hh : ¬ nI k0 < nI n0 => hh (nI_lt (a := k0) (b := n0) hk (by omega))) h0).elim)
  refine s_iload_n B dJ3_checkIndex_8e157_16 rfl 0 rfl ?_
  refine s_iret B hQ hr dJ3_checkIndex_8e157_17 rfl ?_
  exact ⟨by first | assumption | decide | (intro h9; first | assumption | exact absurd h9 (by decide)) | omega | rfl | (refine ⟨_, ?_, by assumption⟩; omega) | (clear hQ B hr hsc; grind), rfl⟩
def rmJ0_checkIndex_df160 : Room := { frames := 1, cells := 0, slots := 0, locals := 22 }
theorem hd_J0_checkIndex_df160 : yJ0_checkIndex_df160.cls ≠ "java/lang/invoke/MethodHandle" ∧ yJ0_checkIndex_df160.cls ≠ "java/lang/invoke/VarHandle" ∧ (parseMethodDescriptor yJ0_checkIndex_df160.desc).map (fun d => d.parameters.length) = some 2 := by decide +kernel
set_option maxHeartbeats 4000000 in
set_option maxRecDepth 100000 in
theorem c_J0_checkIndex_df160 (l : Launch) (D : va_G) (g : Nat → ClassId) (k0 : Nat) (n0 : Nat)  (hk : k0 < n0) (hn0 : n0 < 2 ^ 31) : Cv l yJ0_checkIndex_df160 (WW yJ0_checkIndex_df160 cJ0_checkIndex_df160 2 none) rmJ0_checkIndex_df160 D vwCl (TY g) [.int (nI k0), .int (nI n0)] [] (fun u => u = []) := by
  refine cv_in (by decide) (Nat.le_of_ble_eq_true rfl) (a0 := []) rfl (fun p e s m args below meth c A Q hQ B hr hsc => ?_)
  refine s_iload_n B dJ0_checkIndex_df160_0 rfl 0 rfl ?_
  refine s_iload_n B dJ0_checkIndex_df160_1 rfl 1 rfl ?_
  refine s_getsF B hsc fl_J0_1053 dJ0_checkIndex_df160_2 (fun vv hvv => ?_)
  rcases hvv with rfl | ⟨tt, rfl⟩
  · refine s_callSi B hsc (c_J3_checkIndex_null l D g k0 n0 (by omega) (by omega)) (gw_S ml_J0_1059 sm_yJ3_checkIndex_8e157 ini_RJ3 co_yJ3_checkIndex_8e157) hd_J3_checkIndex_8e157 rfl rfl ⟨(Nat.le_of_ble_eq_true rfl), (Nat.le_of_ble_eq_true rfl)⟩ [] [0, 1, 2, 3, 4] rfl rfl rfl rfl rfl (Nat.le_of_ble_eq_true rfl) dJ0_checkIndex_df160_5 (fun r u hpo => ?_)
    obtain ⟨rfl, rfl⟩ := hpo
    refine s_st (st' := [.int (nI k0)]) rfl ?_
    refine s_ws (ws' := []) rfl ?_
    refine s_pop B dJ0_checkIndex_df160_8 rfl ?_
    refine s_vret B hQ hr dJ0_checkIndex_df160_9 rfl ?_
    exact rfl
  · refine s_callSi B hsc (c_J3_checkIndex_ref l D g k0 n0 tt (by omega) (by omega)) (gw_S ml_J0_1059 sm_yJ3_checkIndex_8e157 ini_RJ3 co_yJ3_checkIndex_8e157) hd_J3_checkIndex_8e157 rfl rfl ⟨(Nat.le_of_ble_eq_true rfl), (Nat.le_of_ble_eq_true rfl)⟩ [] [0, 1, 2, 3, 4] rfl rfl rfl rfl rfl (Nat.le_of_ble_eq_true rfl) dJ0_checkIndex_df160_5 (fun r u hpo => ?_)
    obtain ⟨rfl, rfl⟩ := hpo
    refine s_st (st' := [.int (nI k0)]) rfl ?_
    refine s_ws (ws' := []) rfl ?_
    refine s_pop B dJ0_checkIndex_df160_8 rfl ?_
    refine s_vret B hQ hr dJ0_checkIndex_df160_9 rfl ?_
    exact rfl
def rmJ0_coder_7d493 : Room := { frames := 0, cells := 0, slots := 0, locals := 0 }
theorem hd_J0_coder_7d493 : yJ0_coder_7d493.cls = RJ0 ∧ yJ0_coder_7d493.cls ≠ "java/lang/invoke/MethodHandle" ∧ yJ0_coder_7d493.cls ≠ "java/lang/invoke/VarHandle" ∧ (parseMethodDescriptor yJ0_coder_7d493.desc).map (fun d => d.parameters.length) = some 0 := by decide +kernel
set_option maxHeartbeats 4000000 in
set_option maxRecDepth 100000 in
theorem c_J0_coder_7d493 (l : Launch) (D : va_G) (g : Nat → ClassId) (i : Nat)  (hi : i < 13) : Ci l yJ0_coder_7d493 (WW yJ0_coder_7d493 cJ0_coder_7d493 1 (some FieldType.byte)) rmJ0_coder_7d493 D vwCl (TY g) [.ref (D.2 100 i)] [] (fun r u => r = 0 ∧ u = []) := by
  refine ci_in (by decide) (Nat.le_of_ble_eq_true rfl) (a0 := []) rfl (fun p e s m args below meth c A Q hQ B hr hsc => ?_)
  refine s_getsC B hsc fl_J0_38 dJ0_coder_7d493_0 ?_
  refine s_if_eq (tgt := 13) B dJ0_coder_7d493_3 rfl (fun h0 => absurd h0 (by decide)) (fun h3 => ?_)
  refine s_aload_n B dJ0_coder_7d493_6 rfl 0 rfl ?_
  refine s_getSc B hsc hi fl_J0_15 dJ0_coder_7d493_7 ?_
  refine s_goto (tgt := 14) B dJ0_coder_7d493_10 rfl ?_
  refine s_zretT B hQ hr dJ0_coder_7d493_14 rfl rfl ?_
  exact ⟨by first | assumption | decide | (intro h9; first | assumption | exact absurd h9 (by decide)) | omega | rfl | (refine ⟨_, ?_, by assumption⟩; omega) | (clear hQ B hr hsc; grind), rfl⟩
def rmJ0_isLatin1_aae02 : Room := { frames := 0, cells := 0, slots := 0, locals := 0 }
theorem hd_J0_isLatin1_aae02 : yJ0_isLatin1_aae02.cls = RJ0 ∧ yJ0_isLatin1_aae02.cls ≠ "java/lang/invoke/MethodHandle" ∧ yJ0_isLatin1_aae02.cls ≠ "java/lang/invoke/VarHandle" ∧ (parseMethodDescriptor yJ0_isLatin1_aae02.desc).map (fun d => d.parameters.length) = some 0 := by decide +kernel
set_option maxHeartbeats 4000000 in
set_option maxRecDepth 100000 in
theorem c_J0_isLatin1_aae02 (l : Launch) (D : va_G) (g : Nat → ClassId) (i : Nat)  (hi : i < 13) : Ci l yJ0_isLatin1_aae02 (WW yJ0_isLatin1_aae02 cJ0_isLatin1_aae02 1 (some FieldType.boolean)) rmJ0_isLatin1_aae02 D vwCl (TY g) [.ref (D.2 100 i)] [] (fun r u => r = 1 ∧ u = []) := by
  refine ci_in (by decide) (Nat.le_of_ble_eq_true rfl) (a0 := []) rfl (fun p e s m args below meth c A Q hQ B hr hsc => ?_)
  refine s_getsC B hsc fl_J0_38 dJ0_isLatin1_aae02_0 ?_
  refine s_if_eq (tgt := 17) B dJ0_isLatin1_aae02_3 rfl (fun h0 => absurd h0 (by decide)) (fun h3 => ?_)
  refine s_aload_n B dJ0_isLatin1_aae02_6 rfl 0 rfl ?_
  refine s_getSc B hsc hi fl_J0_15 dJ0_isLatin1_aae02_7 ?_
  refine s_if_ne (tgt := 17) B dJ0_isLatin1_aae02_10 rfl (fun h0 => absurd h0 (by decide)) (fun h10 => ?_)
  refine s_iconst B dJ0_isLatin1_aae02_13 ic_1 ?_
  refine s_goto (tgt := 18) B dJ0_isLatin1_aae02_14 rfl ?_
  refine s_zret B hQ hr dJ0_isLatin1_aae02_18 rfl rfl ?_
  exact ⟨by first | assumption | decide | (intro h9; first | assumption | exact absurd h9 (by decide)) | omega | rfl | (refine ⟨_, ?_, by assumption⟩; omega) | (clear hQ B hr hsc; grind), rfl⟩
def rmJ0_length_8abf5 : Room := { frames := 1, cells := 0, slots := 0, locals := 20 }
theorem hd_J0_length_8abf5 : yJ0_length_8abf5.cls = RJ0 ∧ yJ0_length_8abf5.cls ≠ "java/lang/invoke/MethodHandle" ∧ yJ0_length_8abf5.cls ≠ "java/lang/invoke/VarHandle" ∧ (parseMethodDescriptor yJ0_length_8abf5.desc).map (fun d => d.parameters.length) = some 0 := by decide +kernel
set_option maxHeartbeats 4000000 in
set_option maxRecDepth 100000 in
theorem c_J0_length_8abf5 (l : Launch) (D : va_G) (g : Nat → ClassId) (i : Nat)  (hi : i < 13) : Ci l yJ0_length_8abf5 (WW yJ0_length_8abf5 cJ0_length_8abf5 1 (some FieldType.int)) rmJ0_length_8abf5 D vwCl (TY g) [.ref (D.2 100 i)] [] (fun r u => r = nI (lenS.getD i 0) ∧ u = []) := by
  refine ci_in (by decide) (Nat.le_of_ble_eq_true rfl) (a0 := []) rfl (fun p e s m args below meth c A Q hQ B hr hsc => ?_)
  refine s_aload_n B dJ0_length_8abf5_0 rfl 0 rfl ?_
  refine s_getSv B hsc hi fl_J0_9 dJ0_length_8abf5_1 ?_
  refine s_lenS B hsc hi dJ0_length_8abf5_4 ?_
  refine s_aload_n B dJ0_length_8abf5_5 rfl 0 rfl ?_
  refine s_callVK B hsc hi (c_J0_coder_7d493 l D g i hi) (gw_V ml_J0_335 im_yJ0_coder_7d493 se_yJ0_coder_7d493 ini_RJ0 co_yJ0_coder_7d493) hd_J0_coder_7d493 rfl rfl ⟨(Nat.le_of_ble_eq_true rfl), (Nat.le_of_ble_eq_true rfl)⟩ [] [0, 1, 2, 3, 4] rfl rfl rfl rfl rfl (Nat.le_of_ble_eq_true rfl) dJ0_length_8abf5_6 (fun r u hpo => ?_)
  obtain ⟨rfl, rfl⟩ := hpo
  refine s_st (st' := [.int 0, .int (nI (lenS.getD i 0))]) rfl ?_
  refine s_ws (ws' := []) rfl ?_
  refine s_ishr B dJ0_length_8abf5_9 ?_
  refine s_iret B hQ hr dJ0_length_8abf5_10 rfl ?_
  exact ⟨len_sh hi, rfl⟩
def rmJ1_charAt_3b067 : Room := { frames := 2, cells := 0, slots := 0, locals := 43 }
theorem hd_J1_charAt_3b067 : yJ1_charAt_3b067.cls ≠ "java/lang/invoke/MethodHandle" ∧ yJ1_charAt_3b067.cls ≠ "java/lang/invoke/VarHandle" ∧ (parseMethodDescriptor yJ1_charAt_3b067.desc).map (fun d => d.parameters.length) = some 2 := by decide +kernel
set_option maxHeartbeats 4000000 in
set_option maxRecDepth 100000 in
theorem c_J1_charAt_3b067 (l : Launch) (D : va_G) (g : Nat → ClassId) (i : Nat) (k0 : Nat)  (hi : i < 13) (hk : k0 < lenS.getD i 0) : Ci l yJ1_charAt_3b067 (WW yJ1_charAt_3b067 cJ1_charAt_3b067 2 (some FieldType.char)) rmJ1_charAt_3b067 D vwCl (TY g) [.ref (D.2 101 i), .int (nI k0)] [] (fun r u => r = chS i k0 ∧ u = []) := by
  refine ci_in (by decide) (Nat.le_of_ble_eq_true rfl) (a0 := []) rfl (fun p e s m args below meth c A Q hQ B hr hsc => ?_)
  have hk8 := len_8 hi
  refine s_iload_n B dJ1_charAt_3b067_0 rfl 1 rfl ?_
  refine s_aload_n B dJ1_charAt_3b067_1 rfl 0 rfl ?_
  refine s_lenS B hsc hi dJ1_charAt_3b067_2 ?_
  refine s_callSv B hsc (c_J0_checkIndex_df160 l D g k0 (lenS.getD i 0) hk (len_lt hi)) (gw_S ml_J1_9 sm_yJ0_checkIndex_df160 ini_RJ0 co_yJ0_checkIndex_df160) hd_J0_checkIndex_df160 rfl rfl ⟨(Nat.le_of_ble_eq_true rfl), (Nat.le_of_ble_eq_true rfl)⟩ [] [0, 1, 2, 3, 4] rfl rfl rfl rfl rfl (Nat.le_of_ble_eq_true rfl) dJ1_charAt_3b067_3 (fun u hpo => ?_)
  subst hpo
  refine s_ws (ws' := []) rfl ?_
  refine s_aload_n B dJ1_charAt_3b067_6 rfl 0 rfl ?_
  refine s_iload_n B dJ1_charAt_3b067_7 rfl 1 rfl ?_
  refine s_byS B hsc hi hk (by omega) (len_lt hi) dJ1_charAt_3b067_8 ?_
  refine s_sipush B dJ1_charAt_3b067_9 sp_255 ?_
  refine s_iand B dJ1_charAt_3b067_12 ?_
  refine s_i2c B dJ1_charAt_3b067_13 rfl ?_
  refine s_zretT B hQ hr dJ1_charAt_3b067_14 rfl (chS_n hi hk) ?_
  exact ⟨rfl, rfl⟩
def rmJ0_charAt_5068e : Room := { frames := 3, cells := 0, slots := 0, locals := 64 }
theorem hd_J0_charAt_5068e : yJ0_charAt_5068e.cls = RJ0 ∧ yJ0_charAt_5068e.cls ≠ "java/lang/invoke/MethodHandle" ∧ yJ0_charAt_5068e.cls ≠ "java/lang/invoke/VarHandle" ∧ (parseMethodDescriptor yJ0_charAt_5068e.desc).map (fun d => d.parameters.length) = some 1 := by decide +kernel
set_option maxHeartbeats 4000000 in
set_option maxRecDepth 100000 in
theorem c_J0_charAt_5068e (l : Launch) (D : va_G) (g : Nat → ClassId) (i : Nat) (k0 : Nat)  (hi : i < 13) (hk : k0 < lenS.getD i 0) : Ci l yJ0_charAt_5068e (WW yJ0_charAt_5068e cJ0_charAt_5068e 2 (some FieldType.char)) rmJ0_charAt_5068e D vwCl (TY g) [.ref (D.2 100 i), .int (nI k0)] [] (fun r u => r = chS i k0 ∧ u = []) := by
  refine ci_in (by decide) (Nat.le_of_ble_eq_true rfl) (a0 := []) rfl (fun p e s m args below meth c A Q hQ B hr hsc => ?_)
  refine s_aload_n B dJ0_charAt_5068e_0 rfl 0 rfl ?_
  refine s_callVK B hsc hi (c_J0_isLatin1_aae02 l D g i hi) (gw_V ml_J0_492 im_yJ0_isLatin1_aae02 se_yJ0_isLatin1_aae02 ini_RJ0 co_yJ0_isLatin1_aae02) hd_J0_isLatin1_aae02 rfl rfl ⟨(Nat.le_of_ble_eq_true rfl), (Nat.le_of_ble_eq_true rfl)⟩ [] [0, 1, 2, 3, 4] rfl rfl rfl rfl rfl (Nat.le_of_ble_eq_true rfl) dJ0_charAt_5068e_1 (fun r u hpo => ?_)
  obtain ⟨rfl, rfl⟩ := hpo
  refine s_st (st' := [.int 1]) rfl ?_
  refine s_ws (ws' := []) rfl ?_
  refine s_if_eq (tgt := 16) B dJ0_charAt_5068e_4 rfl (fun h0 => absurd h0 (by decide)) (fun h4 => ?_)
  refine s_aload_n B dJ0_charAt_5068e_7 rfl 0 rfl ?_
  refine s_getSv B hsc hi fl_J0_9 dJ0_charAt_5068e_8 ?_
  refine s_iload_n B dJ0_charAt_5068e_11 rfl 1 rfl ?_
  refine s_callSi B hsc (c_J1_charAt_3b067 l D g i k0 hi hk) (gw_S ml_J0_495 sm_yJ1_charAt_3b067 ini_RJ1 co_yJ1_charAt_3b067) hd_J1_charAt_3b067 rfl rfl ⟨(Nat.le_of_ble_eq_true rfl), (Nat.le_of_ble_eq_true rfl)⟩ [] [0, 1, 2, 3, 4] rfl rfl rfl rfl rfl (Nat.le_of_ble_eq_true rfl) dJ0_charAt_5068e_12 (fun r u hpo => ?_)
  obtain ⟨rfl, rfl⟩ := hpo
  refine s_st (st' := [.int (chS i k0)]) rfl ?_
  refine s_ws (ws' := []) rfl ?_
  refine s_zretT B hQ hr dJ0_charAt_5068e_15 rfl (chS_n hi hk) ?_
  exact ⟨rfl, rfl⟩
def rmX5_nameOf : Room := { frames := 0, cells := 0, slots := 0, locals := 0 }
theorem hd_X5_nameOf : yX5_nameOf.cls ≠ "java/lang/invoke/MethodHandle" ∧ yX5_nameOf.cls ≠ "java/lang/invoke/VarHandle" ∧ (parseMethodDescriptor yX5_nameOf.desc).map (fun d => d.parameters.length) = some 1 := by decide +kernel
set_option maxHeartbeats 4000000 in
set_option maxRecDepth 100000 in
theorem c_X5_nameOf (l : Launch) (D : va_G) (g : Nat → ClassId) (x0 : Int32) : CsP (fun i => ∀ w : Nat, w < 13 → x0 = nI w → i = w) l yX5_nameOf (WW yX5_nameOf cX5_nameOf 1 (some (FieldType.object "java/lang/String"))) rmX5_nameOf D vwCl (TY g) [.int x0] [] := by
  refine cs_inP (by decide) (Nat.le_of_ble_eq_true rfl) (fun p e s m args below meth c A Q hQ B hr hsc => ?_)
  refine s_iload_n B dX5_nameOf_0 rfl 0 rfl ?_
  by_cases k1_0 : x0 = 0
  · refine s_tableIn (off := 63) (tgt := 64) B dX5_nameOf_1 (by rw [k1_0]; decide) (by rw [k1_0]; decide) (by rw [k1_0]; rfl) rfl ?_
    refine s_ldcS B hsc 0 (by decide) rfl rfl dX5_nameOf_64 ?_
    exact s_aretSP B hQ hr (Or.inl ⟨_, rfl⟩) (by decide) (fun w hw e => (nI_eq (a := 0) (b := w) (by decide) (by omega)).mp (k1_0.symm.trans e)) dX5_nameOf_66
  · by_cases k1_1 : x0 = 1
    · refine s_tableIn (off := 66) (tgt := 67) B dX5_nameOf_1 (by rw [k1_1]; decide) (by rw [k1_1]; decide) (by rw [k1_1]; rfl) rfl ?_
      refine s_ldcS B hsc 1 (by decide) rfl rfl dX5_nameOf_67 ?_
      exact s_aretSP B hQ hr (Or.inl ⟨_, rfl⟩) (by decide) (fun w hw e => (nI_eq (a := 1) (b := w) (by decide) (by omega)).mp (k1_1.symm.trans e)) dX5_nameOf_69
    · by_cases k1_2 : x0 = 2
      · refine s_tableIn (off := 69) (tgt := 70) B dX5_nameOf_1 (by rw [k1_2]; decide) (by rw [k1_2]; decide) (by rw [k1_2]; rfl) rfl ?_
        refine s_ldcS B hsc 2 (by decide) rfl rfl dX5_nameOf_70 ?_
        exact s_aretSP B hQ hr (Or.inl ⟨_, rfl⟩) (by decide) (fun w hw e => (nI_eq (a := 2) (b := w) (by decide) (by omega)).mp (k1_2.symm.trans e)) dX5_nameOf_72
      · by_cases k1_3 : x0 = 3
        · refine s_tableIn (off := 72) (tgt := 73) B dX5_nameOf_1 (by rw [k1_3]; decide) (by rw [k1_3]; decide) (by rw [k1_3]; rfl) rfl ?_
          refine s_ldcS B hsc 3 (by decide) rfl rfl dX5_nameOf_73 ?_
          exact s_aretSP B hQ hr (Or.inl ⟨_, rfl⟩) (by decide) (fun w hw e => (nI_eq (a := 3) (b := w) (by decide) (by omega)).mp (k1_3.symm.trans e)) dX5_nameOf_75
        · by_cases k1_4 : x0 = 4
          · refine s_tableIn (off := 75) (tgt := 76) B dX5_nameOf_1 (by rw [k1_4]; decide) (by rw [k1_4]; decide) (by rw [k1_4]; rfl) rfl ?_
            refine s_ldcS B hsc 4 (by decide) rfl rfl dX5_nameOf_76 ?_
            exact s_aretSP B hQ hr (Or.inl ⟨_, rfl⟩) (by decide) (fun w hw e => (nI_eq (a := 4) (b := w) (by decide) (by omega)).mp (k1_4.symm.trans e)) dX5_nameOf_78
          · by_cases k1_5 : x0 = 5
            · refine s_tableIn (off := 78) (tgt := 79) B dX5_nameOf_1 (by rw [k1_5]; decide) (by rw [k1_5]; decide) (by rw [k1_5]; rfl) rfl ?_
              refine s_ldcS B hsc 5 (by decide) rfl rfl dX5_nameOf_79 ?_
              exact s_aretSP B hQ hr (Or.inl ⟨_, rfl⟩) (by decide) (fun w hw e => (nI_eq (a := 5) (b := w) (by decide) (by omega)).mp (k1_5.symm.trans e)) dX5_nameOf_81
            · by_cases k1_6 : x0 = 6
              · refine s_tableIn (off := 81) (tgt := 82) B dX5_nameOf_1 (by rw [k1_6]; decide) (by rw [k1_6]; decide) (by rw [k1_6]; rfl) rfl ?_
                refine s_ldcS B hsc 6 (by decide) rfl rfl dX5_nameOf_82 ?_
                exact s_aretSP B hQ hr (Or.inl ⟨_, rfl⟩) (by decide) (fun w hw e => (nI_eq (a := 6) (b := w) (by decide) (by omega)).mp (k1_6.symm.trans e)) dX5_nameOf_84
              · by_cases k1_7 : x0 = 7
                · refine s_tableIn (off := 84) (tgt := 85) B dX5_nameOf_1 (by rw [k1_7]; decide) (by rw [k1_7]; decide) (by rw [k1_7]; rfl) rfl ?_
                  refine s_ldcS B hsc 7 (by decide) rfl rfl dX5_nameOf_85 ?_
                  exact s_aretSP B hQ hr (Or.inl ⟨_, rfl⟩) (by decide) (fun w hw e => (nI_eq (a := 7) (b := w) (by decide) (by omega)).mp (k1_7.symm.trans e)) dX5_nameOf_87
                · by_cases k1_8 : x0 = 8
                  · refine s_tableIn (off := 87) (tgt := 88) B dX5_nameOf_1 (by rw [k1_8]; decide) (by rw [k1_8]; decide) (by rw [k1_8]; rfl) rfl ?_
                    refine s_ldcS B hsc 8 (by decide) rfl rfl dX5_nameOf_88 ?_
                    exact s_aretSP B hQ hr (Or.inl ⟨_, rfl⟩) (by decide) (fun w hw e => (nI_eq (a := 8) (b := w) (by decide) (by omega)).mp (k1_8.symm.trans e)) dX5_nameOf_90
                  · by_cases k1_9 : x0 = 9
                    · refine s_tableIn (off := 90) (tgt := 91) B dX5_nameOf_1 (by rw [k1_9]; decide) (by rw [k1_9]; decide) (by rw [k1_9]; rfl) rfl ?_
                      refine s_ldcS B hsc 9 (by decide) rfl rfl dX5_nameOf_91 ?_
                      exact s_aretSP B hQ hr (Or.inl ⟨_, rfl⟩) (by decide) (fun w hw e => (nI_eq (a := 9) (b := w) (by decide) (by omega)).mp (k1_9.symm.trans e)) dX5_nameOf_93
                    · by_cases k1_10 : x0 = 10
                      · refine s_tableIn (off := 93) (tgt := 94) B dX5_nameOf_1 (by rw [k1_10]; decide) (by rw [k1_10]; decide) (by rw [k1_10]; rfl) rfl ?_
                        refine s_ldcS B hsc 10 (by decide) rfl rfl dX5_nameOf_94 ?_
                        exact s_aretSP B hQ hr (Or.inl ⟨_, rfl⟩) (by decide) (fun w hw e => (nI_eq (a := 10) (b := w) (by decide) (by omega)).mp (k1_10.symm.trans e)) dX5_nameOf_96
                      · by_cases k1_11 : x0 = 11
                        · refine s_tableIn (off := 96) (tgt := 97) B dX5_nameOf_1 (by rw [k1_11]; decide) (by rw [k1_11]; decide) (by rw [k1_11]; rfl) rfl ?_
                          refine s_ldcS B hsc 11 (by decide) rfl rfl dX5_nameOf_97 ?_
                          exact s_aretSP B hQ hr (Or.inl ⟨_, rfl⟩) (by decide) (fun w hw e => (nI_eq (a := 11) (b := w) (by decide) (by omega)).mp (k1_11.symm.trans e)) dX5_nameOf_99
                        · refine s_tableOut (tgt := 100) B dX5_nameOf_1 (by have q0 := lv_neT k1_0 (show (0 : Int32).toInt = 0 from by decide); have q1 := lv_neT k1_1 (show (1 : Int32).toInt = 1 from by decide); have q2 := lv_neT k1_2 (show (2 : Int32).toInt = 2 from by decide); have q3 := lv_neT k1_3 (show (3 : Int32).toInt = 3 from by decide); have q4 := lv_neT k1_4 (show (4 : Int32).toInt = 4 from by decide); have q5 := lv_neT k1_5 (show (5 : Int32).toInt = 5 from by decide); have q6 := lv_neT k1_6 (show (6 : Int32).toInt = 6 from by decide); have q7 := lv_neT k1_7 (show (7 : Int32).toInt = 7 from by decide); have q8 := lv_neT k1_8 (show (8 : Int32).toInt = 8 from by decide); have q9 := lv_neT k1_9 (show (9 : Int32).toInt = 9 from by decide); have q10 := lv_neT k1_10 (show (10 : Int32).toInt = 10 from by decide); have q11 := lv_neT k1_11 (show (11 : Int32).toInt = 11 from by decide); omega) rfl ?_
                          refine s_ldcS B hsc 12 (by decide) rfl rfl dX5_nameOf_100 ?_
                          exact s_aretSP B hQ hr (Or.inl ⟨_, rfl⟩) (by decide) (fun w hw e => by rcases (show w = 0 ∨ w = 1 ∨ w = 2 ∨ w = 3 ∨ w = 4 ∨ w = 5 ∨ w = 6 ∨ w = 7 ∨ w = 8 ∨ w = 9 ∨ w = 10 ∨ w = 11 ∨ w = 12 from by omega) with rfl | rfl | rfl | rfl | rfl | rfl | rfl | rfl | rfl | rfl | rfl | rfl | rfl <;> first | rfl | exact absurd e (by assumption)) dX5_nameOf_102
def rmX5_isLetter : Room := { frames := 0, cells := 0, slots := 0, locals := 0 }
theorem hd_X5_isLetter : yX5_isLetter.cls ≠ "java/lang/invoke/MethodHandle" ∧ yX5_isLetter.cls ≠ "java/lang/invoke/VarHandle" ∧ (parseMethodDescriptor yX5_isLetter.desc).map (fun d => d.parameters.length) = some 1 := by decide +kernel
set_option maxHeartbeats 4000000 in
set_option maxRecDepth 100000 in
theorem c_X5_isLetter (l : Launch) (D : va_G) (g : Nat → ClassId) (x0 : Int32)  : Ci l yX5_isLetter (WW yX5_isLetter cX5_isLetter 1 (some FieldType.boolean)) rmX5_isLetter D vwCl (TY g) [.int x0] [] (fun r u => r = (if ¬ x0 < 97 ∧ ¬ 122 < x0 then 1 else 0) ∧ u = []) := by
  refine ci_in (by decide) (Nat.le_of_ble_eq_true rfl) (a0 := []) rfl (fun p e s m args below meth c A Q hQ B hr hsc => ?_)
  refine s_iload_n B dX5_isLetter_0 rfl 0 rfl ?_
  refine s_bipush B dX5_isLetter_1 bp_97 ?_
  refine s_icmp_lt (tgt := 16) B dX5_isLetter_3 rfl (fun h3 => ?_) (fun h3 => ?_)
  · refine s_iconst B dX5_isLetter_16 ic_0 ?_
    refine s_zret B hQ hr dX5_isLetter_17 rfl rfl ?_
    exact ⟨by clear hQ B hr hsc; grind, rfl⟩
  · refine s_iload_n B dX5_isLetter_6 rfl 0 rfl ?_
    refine s_bipush B dX5_isLetter_7 bp_122 ?_
    refine s_icmp_gt (tgt := 16) B dX5_isLetter_9 rfl (fun h9 => ?_) (fun h9 => ?_)
    · refine s_iconst B dX5_isLetter_16 ic_0 ?_
      refine s_zret B hQ hr dX5_isLetter_17 rfl rfl ?_
      exact ⟨by clear hQ B hr hsc; grind, rfl⟩
    · refine s_iconst B dX5_isLetter_12 ic_1 ?_
      refine s_goto (tgt := 17) B dX5_isLetter_13 rfl ?_
      refine s_zret B hQ hr dX5_isLetter_17 rfl rfl ?_
      exact ⟨by clear hQ B hr hsc; grind, rfl⟩
