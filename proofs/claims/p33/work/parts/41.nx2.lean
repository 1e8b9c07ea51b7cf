section SXM
variable {p : Program} {l : Launch} {e : Env} {R : Room} {s : State} {m : MethodId} {args : Array Value} {below : List Frame} {meth : Method} {c : Code} {Q : State → Prop} {D : va_G} {cl : List vw_C} {tys tys2 : List (ClassId × FieldType)} {A : Nat → Prop} {nL pc mc ms : Nat} {lv : List (Nat × Value)} {st st0 : List Value} {ws sub : va_W} {cc bytes : ByteArray} {own C : String} {y : MethodName} {maxL n index : Nat} {rt : FieldType} {rm : Room} {As : List Value}
set_option maxHeartbeats 1000000 in
theorem n_iadd (B : Bs p s m args meth c D cl tys A nL cc own) {x y : Int32} (hdg : decode cc pc = .ok (.iadd, 1)) (k : Nx p l e R s m args below meth c D cl A nL mc ms Q (pc + 1) lv (.int (x + y) :: st) ws) : Nx p l e R s m args below meth c D cl A nL mc ms Q pc lv (.int y :: .int x :: st) ws := fun H locs ls hP hD hS hl9 => lv_iadd B.1 B.2.1 hdg (k H locs ls hP hD hS hl9)
set_option maxHeartbeats 1000000 in
theorem n_isub (B : Bs p s m args meth c D cl tys A nL cc own) {x y : Int32} (hdg : decode cc pc = .ok (.isub, 1)) (k : Nx p l e R s m args below meth c D cl A nL mc ms Q (pc + 1) lv (.int (x - y) :: st) ws) : Nx p l e R s m args below meth c D cl A nL mc ms Q pc lv (.int y :: .int x :: st) ws := fun H locs ls hP hD hS hl9 => lv_isub B.1 B.2.1 hdg (k H locs ls hP hD hS hl9)
set_option maxHeartbeats 1000000 in
theorem n_iand (B : Bs p s m args meth c D cl tys A nL cc own) {x y : Int32} (hdg : decode cc pc = .ok (.iand, 1)) (k : Nx p l e R s m args below meth c D cl A nL mc ms Q (pc + 1) lv (.int (x &&& y) :: st) ws) : Nx p l e R s m args below meth c D cl A nL mc ms Q pc lv (.int y :: .int x :: st) ws := fun H locs ls hP hD hS hl9 => lv_iand B.1 B.2.1 hdg (k H locs ls hP hD hS hl9)
set_option maxHeartbeats 1000000 in
theorem n_land (B : Bs p s m args meth c D cl tys A nL cc own) {x y : Int64} (hdg : decode cc pc = .ok (.land, 1)) (k : Nx p l e R s m args below meth c D cl A nL mc ms Q (pc + 1) lv (.long (x &&& y) :: st) ws) : Nx p l e R s m args below meth c D cl A nL mc ms Q pc lv (.long y :: .long x :: st) ws := fun H locs ls hP hD hS hl9 => lv_land B.1 B.2.1 hdg (k H locs ls hP hD hS hl9)
set_option maxHeartbeats 1000000 in
theorem n_lor (B : Bs p s m args meth c D cl tys A nL cc own) {x y : Int64} (hdg : decode cc pc = .ok (.lor, 1)) (k : Nx p l e R s m args below meth c D cl A nL mc ms Q (pc + 1) lv (.long (x ||| y) :: st) ws) : Nx p l e R s m args below meth c D cl A nL mc ms Q pc lv (.long y :: .long x :: st) ws := fun H locs ls hP hD hS hl9 => lv_lor B.1 B.2.1 hdg (k H locs ls hP hD hS hl9)
set_option maxHeartbeats 1000000 in
theorem n_i2l (B : Bs p s m args meth c D cl tys A nL cc own) {x : Int32} {v : Int64} (hdg : decode cc pc = .ok (.i2l, 1)) (hv : x.toInt64 = v) (k : Nx p l e R s m args below meth c D cl A nL mc ms Q (pc + 1) lv (.long v :: st) ws) : Nx p l e R s m args below meth c D cl A nL mc ms Q pc lv (.int x :: st) ws := fun H locs ls hP hD hS hl9 => lv_i2l B.1 B.2.1 hdg hv (k H locs ls hP hD hS hl9)
set_option maxHeartbeats 1000000 in
theorem n_lshl (B : Bs p s m args meth c D cl tys A nL cc own) {x v : Int64} {y : Int32} (hdg : decode cc pc = .ok (.lshl, 1)) (hv : x <<< (y.toInt64 &&& 63) = v) (k : Nx p l e R s m args below meth c D cl A nL mc ms Q (pc + 1) lv (.long v :: st) ws) : Nx p l e R s m args below meth c D cl A nL mc ms Q pc lv (.int y :: .long x :: st) ws := fun H locs ls hP hD hS hl9 => lv_lshl B.1 B.2.1 hdg hv (k H locs ls hP hD hS hl9)
set_option maxHeartbeats 1000000 in
theorem n_if_eq (B : Bs p s m args meth c D cl tys A nL cc own) {x : Int32} {off : Int} {tgt : Nat} (hdg : decode cc pc = .ok (.ifCond .eq off, 3)) (ht : (pc : Int) + off = (tgt : Int)) (kt : x = 0 → Nx p l e R s m args below meth c D cl A nL mc ms Q tgt lv st ws) (kf : ¬ x = 0 → Nx p l e R s m args below meth c D cl A nL mc ms Q (pc + 3) lv st ws) : Nx p l e R s m args below meth c D cl A nL mc ms Q pc lv (.int x :: st) ws := fun H locs ls hP hD hS hl9 => lv_if_eq B.1 B.2.1 hdg ht (fun h => kt h H locs ls hP hD hS hl9) (fun h => kf h H locs ls hP hD hS hl9)
set_option maxHeartbeats 1000000 in
theorem n_if_ne (B : Bs p s m args meth c D cl tys A nL cc own) {x : Int32} {off : Int} {tgt : Nat} (hdg : decode cc pc = .ok (.ifCond .ne off, 3)) (ht : (pc : Int) + off = (tgt : Int)) (kt : ¬ x = 0 → Nx p l e R s m args below meth c D cl A nL mc ms Q tgt lv st ws) (kf : x = 0 → Nx p l e R s m args below meth c D cl A nL mc ms Q (pc + 3) lv st ws) : Nx p l e R s m args below meth c D cl A nL mc ms Q pc lv (.int x :: st) ws := fun H locs ls hP hD hS hl9 => lv_if_ne B.1 B.2.1 hdg ht (fun h => kt h H locs ls hP hD hS hl9) (fun h => kf h H locs ls hP hD hS hl9)
set_option maxHeartbeats 1000000 in
theorem n_icmp_eq (B : Bs p s m args meth c D cl tys A nL cc own) {x y : Int32} {off : Int} {tgt : Nat} (hdg : decode cc pc = .ok (.if_icmp .eq off, 3)) (ht : (pc : Int) + off = (tgt : Int)) (kt : x = y → Nx p l e R s m args below meth c D cl A nL mc ms Q tgt lv st ws) (kf : ¬ x = y → Nx p l e R s m args below meth c D cl A nL mc ms Q (pc + 3) lv st ws) : Nx p l e R s m args below meth c D cl A nL mc ms Q pc lv (.int y :: .int x :: st) ws := fun H locs ls hP hD hS hl9 => lv_icmp_eq B.1 B.2.1 hdg ht (fun h => kt h H locs ls hP hD hS hl9) (fun h => kf h H locs ls hP hD hS hl9)
set_option maxHeartbeats 1000000 in
theorem n_icmp_ne (B : Bs p s m args meth c D cl tys A nL cc own) {x y : Int32} {off : Int} {tgt : Nat} (hdg : decode cc pc = .ok (.if_icmp .ne off, 3)) (ht : (pc : Int) + off = (tgt : Int)) (kt : ¬ x = y → Nx p l e R s m args below meth c D cl A nL mc ms Q tgt lv st ws) (kf : x = y → Nx p l e R s m args below meth c D cl A nL mc ms Q (pc + 3) lv st ws) : Nx p l e R s m args below meth c D cl A nL mc ms Q pc lv (.int y :: .int x :: st) ws := fun H locs ls hP hD hS hl9 => lv_icmp_ne B.1 B.2.1 hdg ht (fun h => kt h H locs ls hP hD hS hl9) (fun h => kf h H locs ls hP hD hS hl9)
set_option maxHeartbeats 1000000 in
theorem n_icmp_gt (B : Bs p s m args meth c D cl tys A nL cc own) {x y : Int32} {off : Int} {tgt : Nat} (hdg : decode cc pc = .ok (.if_icmp .gt off, 3)) (ht : (pc : Int) + off = (tgt : Int)) (kt : y < x → Nx p l e R s m args below meth c D cl A nL mc ms Q tgt lv st ws) (kf : ¬ y < x → Nx p l e R s m args below meth c D cl A nL mc ms Q (pc + 3) lv st ws) : Nx p l e R s m args below meth c D cl A nL mc ms Q pc lv (.int y :: .int x :: st) ws := fun H locs ls hP hD hS hl9 => lv_icmp_gt B.1 B.2.1 hdg ht (fun h => kt h H locs ls hP hD hS hl9) (fun h => kf h H locs ls hP hD hS hl9)
set_option maxHeartbeats 1000000 in
theorem n_tableIn (B : Bs p s m args meth c D cl tys A nL cc own) {dflt lo hi : Int} {offs : Array Int} {len : Nat} {x : Int32} {off : Int} {tgt : Nat} (hdg : decode cc pc = .ok (.tableswitch dflt lo hi offs, len)) (h1 : ¬ x.toInt < lo) (h2 : ¬ hi < x.toInt) (ho : offs[(x.toInt - lo).toNat]? = some off) (ht : (pc : Int) + off = (tgt : Int)) (k : Nx p l e R s m args below meth c D cl A nL mc ms Q tgt lv st ws) : Nx p l e R s m args below meth c D cl A nL mc ms Q pc lv (.int x :: st) ws := fun H locs ls hP hD hS hl9 => lv_tableIn B.1 B.2.1 hdg h1 h2 ho ht (k H locs ls hP hD hS hl9)
set_option maxHeartbeats 1000000 in
theorem n_tableOut (B : Bs p s m args meth c D cl tys A nL cc own) {dflt lo hi : Int} {offs : Array Int} {len : Nat} {x : Int32} {tgt : Nat} (hdg : decode cc pc = .ok (.tableswitch dflt lo hi offs, len)) (h : x.toInt < lo ∨ hi < x.toInt) (ht : (pc : Int) + dflt = (tgt : Int)) (k : Nx p l e R s m args below meth c D cl A nL mc ms Q tgt lv st ws) : Nx p l e R s m args below meth c D cl A nL mc ms Q pc lv (.int x :: st) ws := fun H locs ls hP hD hS hl9 => lv_tableOut B.1 B.2.1 hdg h ht (k H locs ls hP hD hS hl9)
set_option maxHeartbeats 1000000 in
theorem n_lv {lv' : List (Nat × Value)} (is : List Nat) (h : lv_pick lv is = lv') (k : Nx p l e R s m args below meth c D cl A nL mc ms Q pc lv' st ws) : Nx p l e R s m args below meth c D cl A nL mc ms Q pc lv st ws := fun H locs ls hP hD hS hl => k H locs ls hP hD hS (lv_sub hl is h)
set_option maxHeartbeats 1000000 in
theorem n_ldc2 (B : Bs p s m args meth c D cl tys A nL cc own) {index : Nat} {v : Int64} (hc : Cond.constantLong own index v ∈ lw_gd) (hdg : decode cc pc = .ok (.ldc2_w index, 3)) (k : Nx p l e R s m args below meth c D cl A nL mc ms Q (pc + 3) lv (.long v :: st) ws) : Nx p l e R s m args below meth c D cl A nL mc ms Q pc lv st ws :=
  fun H locs ls hP hD hS hl => lv_ldc2 B.1 B.2.1 B.2.2.2.1 (B.2.2.2.2.1 _ hc) hdg (k H locs ls hP hD hS hl)
set_option maxHeartbeats 1000000 in
theorem n_st {st' : List Value} (h : st = st') (k : Nx p l e R s m args below meth c D cl A nL mc ms Q pc lv st' ws) : Nx p l e R s m args below meth c D cl A nL mc ms Q pc lv st ws := h ▸ k
set_option maxHeartbeats 1000000 in
theorem n_callVi (B : Bs p s m args meth c D cl tys A nL cc own) (hsc : sc D A s s.heap) (hroom : mc + 0 ≤ R.cells ∧ ms + 0 ≤ R.slots) {b : Nat} {post : Int32 → va_W → Prop} (hM : Ci l y (WW y bytes maxL (some rt)) rm D cl tys2 (.ref b :: As) sub post) (hT : GoodIn lw_gd (wsV own index C y (WW y bytes maxL (some rt)))) (hd : y.cls = C ∧ y.cls ≠ "java/lang/invoke/MethodHandle" ∧ y.cls ≠ "java/lang/invoke/VarHandle" ∧ (parseMethodDescriptor y.desc).map (fun d => d.parameters.length) = some n) (h0 : rm.cells = 0) (h1 : rm.slots = 0) (hR : rm.frames + 1 ≤ R.frames ∧ 8 + (maxL + 11) + rm.locals ≤ R.locals)
    (is ty : List Nat) (hC : is.map (fun i => ws[i]?) = sub.map some) (hnd : va_nd is = true) (hty : ty.filterMap (fun i => tys[i]?) = tys2) {ci q0 : Nat} {qc : vw_C} {fs : List Value} (hcl : cl[ci]? = some qc) (hqc : qc.1 = C) (he : sub[q0]? = some (b, .inr (ci, fs))) (hn : As.length = n) (hst : st0 = As.reverse ++ .ref b :: st) (hcat : (st.map fun v => v.category).sum ≤ 8) (hdg : decode cc pc = .ok (.invokevirtual index, 3))
    (kk : ∀ (r : Int32) (u : va_W), post r u → Nx p l e R s m args below meth c D cl A nL mc ms Q (pc + 3) lv (.int r :: st) (va_rj ws is u)) : Nx p l e R s m args below meth c D cl A nL mc ms Q pc lv st0 ws := by
  intro H locs ls hP hD hS hl
  have hpre := cp_at (av := .ref b :: As) B hsc hP hD hS is ty hC hnd hty
  have hF := va_free (wc := sub) hD hS B.2.2.2.2.2.2.2 is hC
  have hrec : ∃ cell : Cell, H[b]? = some cell ∧ cell.vm.isStatics = false ∧ s.vm.findClass C = some cell.cls := by
    have hPc : va_P D cl sub H := fun k q hq => by
      have h1 : (is.map (fun i => ws[i]?))[k]? = (sub.map some)[k]? := by rw [hC]
      rw [List.getElem?_map, List.getElem?_map, hq] at h1
      cases hi : is[k]? with
      | none => rw [hi] at h1; cases h1
      | some i => rw [hi] at h1; exact hP i q (Option.some.inj h1)
    rw [← hqc]
    exact va_recv B.2.2.2.2.2.1 hPc hcl he
  subst hst
  refine va_calli (va_runV (As := As) (rest := st) ⟨B.1, B.2.1, B.2.2.1, B.2.2.2.1, B.2.2.2.2.1⟩ (hM H.size) (cw_V B hT hd h0 h1 hR) ⟨cp_blind, hrec, hpre⟩ rfl hn hl.1 rfl (lv_room hcat) hdg hroom) hS (fun q _ h => hF q h) hF (fun r u t H1 locs1 ht hvm hpo hB hz hk hS1 => ?_)
  obtain ⟨hP1, hu⟩ := hB
  rw [ht] at hP1
  obtain ⟨g1, g2⟩ := rj_to hP hD hC hu hP1 hk
  exact kk r u hpo H1 locs1 ls g1 g2 hS1 hl
set_option maxHeartbeats 1000000 in
theorem n_callVv (B : Bs p s m args meth c D cl tys A nL cc own) (hsc : sc D A s s.heap) (hroom : mc + 0 ≤ R.cells ∧ ms + 0 ≤ R.slots) {b : Nat} {post : va_W → Prop} (hM : Cv l y (WW y bytes maxL none) rm D cl tys2 (.ref b :: As) sub post) (hT : GoodIn lw_gd (wsV own index C y (WW y bytes maxL none))) (hd : y.cls = C ∧ y.cls ≠ "java/lang/invoke/MethodHandle" ∧ y.cls ≠ "java/lang/invoke/VarHandle" ∧ (parseMethodDescriptor y.desc).map (fun d => d.parameters.length) = some n) (h0 : rm.cells = 0) (h1 : rm.slots = 0) (hR : rm.frames + 1 ≤ R.frames ∧ 8 + (maxL + 11) + rm.locals ≤ R.locals)
    (is ty : List Nat) (hC : is.map (fun i => ws[i]?) = sub.map some) (hnd : va_nd is = true) (hty : ty.filterMap (fun i => tys[i]?) = tys2) {ci q0 : Nat} {qc : vw_C} {fs : List Value} (hcl : cl[ci]? = some qc) (hqc : qc.1 = C) (he : sub[q0]? = some (b, .inr (ci, fs))) (hn : As.length = n) (hst : st0 = As.reverse ++ .ref b :: st) (hcat : (st.map fun v => v.category).sum ≤ 8) (hdg : decode cc pc = .ok (.invokevirtual index, 3))
    (kk : ∀ (u : va_W), post u → Nx p l e R s m args below meth c D cl A nL mc ms Q (pc + 3) lv st (va_rj ws is u)) : Nx p l e R s m args below meth c D cl A nL mc ms Q pc lv st0 ws := by
  intro H locs ls hP hD hS hl
  have hpre := cp_at (av := .ref b :: As) B hsc hP hD hS is ty hC hnd hty
  have hF := va_free (wc := sub) hD hS B.2.2.2.2.2.2.2 is hC
  have hrec : ∃ cell : Cell, H[b]? = some cell ∧ cell.vm.isStatics = false ∧ s.vm.findClass C = some cell.cls := by
    have hPc : va_P D cl sub H := fun k q hq => by
      have h1 : (is.map (fun i => ws[i]?))[k]? = (sub.map some)[k]? := by rw [hC]
      rw [List.getElem?_map, List.getElem?_map, hq] at h1
      cases hi : is[k]? with
      | none => rw [hi] at h1; cases h1
      | some i => rw [hi] at h1; exact hP i q (Option.some.inj h1)
    rw [← hqc]
    exact va_recv B.2.2.2.2.2.1 hPc hcl he
  subst hst
  refine va_callv (va_runV (As := As) (rest := st) ⟨B.1, B.2.1, B.2.2.1, B.2.2.2.1, B.2.2.2.2.1⟩ (hM H.size) (cw_V B hT hd h0 h1 hR) ⟨cp_blind, hrec, hpre⟩ rfl hn hl.1 rfl (lv_room hcat) hdg hroom) hS (fun q _ h => hF q h) hF (fun u t H1 locs1 ht hvm hpo hB hz hk hS1 => ?_)
  obtain ⟨hP1, hu⟩ := hB
  rw [ht] at hP1
  obtain ⟨g1, g2⟩ := rj_to hP hD hC hu hP1 hk
  exact kk u hpo H1 locs1 ls g1 g2 hS1 hl
set_option maxHeartbeats 1000000 in
theorem n_iaddE (B : Bs p s m args meth c D cl tys A nL cc own) {x y v : Int32} (hdg : decode cc pc = .ok (.iadd, 1)) (hv : x + y = v) (k : Nx p l e R s m args below meth c D cl A nL mc ms Q (pc + 1) lv (.int v :: st) ws) : Nx p l e R s m args below meth c D cl A nL mc ms Q pc lv (.int y :: .int x :: st) ws := n_iadd B hdg (by rw [hv]; exact k)
theorem n_sldN (B : Bs p s m args meth c D cl tys A nL cc own) {b L j : Nat} {xs : Nat → Int32} (hX : va_X b L xs s s.heap) (hbl : b < s.heap.size) (hbA : ¬ A b) (hj : j < L) (hL : L ≤ 320) (hdg : decode cc pc = .ok (.iaload, 1))
    (k : Nx p l e R s m args below meth c D cl A nL mc ms Q (pc + 1) lv (.int (xs j) :: st) ws) : Nx p l e R s m args below meth c D cl A nL mc ms Q pc lv (.int (nI j) :: .ref b :: st) ws := by
  have e : (nI j).toNatClampNeg = j := nI_clamp (by omega)
  intro H locs ls hP hD hS hl
  refine va_sld B.1 B.2.1 hX hbl hbA hS (pk_in j L hj rfl (by omega)) hdg ?_
  rw [e]
  exact k H locs ls hP hD hS hl
theorem n_slen (B : Bs p s m args meth c D cl tys A nL cc own) {b L : Nat} {xs : Nat → Int32} (hX : va_X b L xs s s.heap) (hbl : b < s.heap.size) (hbA : ¬ A b) (hdg : decode cc pc = .ok (.arraylength, 1))
    (k : Nx p l e R s m args below meth c D cl A nL mc ms Q (pc + 1) lv (.int (nI L) :: st) ws) : Nx p l e R s m args below meth c D cl A nL mc ms Q pc lv (.ref b :: st) ws :=
  fun H locs ls hP hD hS hl => va_slen B.1 B.2.1 hX hbl hbA hS hdg (k H locs ls hP hD hS hl)
end SXM
