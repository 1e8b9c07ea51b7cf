/-! THE CLAIM OUT OF ONE WALK OF THE LAW'S BODY. Your part is whole_start (and what it stands on); all else here is the same for every law, but numbers. -/
def R_law : String := "CrossBookLaw"
def lw_P (b : Addr) (xs : List Int32) (args : Array Value) (s : State) : Prop := args = #[.ref b] ∧ s.IntsAt b xs ∧ xs.length ≤ 320 ∧ (Jvm.Cond.and given_1 narrow_1).before args s = true
def lw_Q (_ : Array Value) (s : State) (o : Outcome) (t : State) : Prop := o = .returned (some (.int 1)) ∧ Framed s o t [] 600000 7302250
def lw_Z (below : List Frame) (a : Array Value) (s : State) : State → Prop := fun t => ∃ o, t.status = .running ∧ Ended t below o ∧ lw_Q a s o t
/-- the law's own end, with 1 on the stack, nothing written that was there before, its room as the claim has it -/
theorem lw_ret {p : Program} {l : Launch} {e : Env} {s : State} {m : MethodId} {below : List Frame} {meth : Method} {c : Code} {b : Nat} (hx : p.tables.exec = Jvm.exec) (hb : c.code = code) (hr : meth.sig.returnType = ret) (hlocks : meth.locks = false) {pc : Nat} {H : Heap} {ls : Array Slot} (hdg : decode code pc = .ok (.ireturn, 1)) : W p l e room_1 s m #[Value.ref b] below meth c H [] 600000 7302250 (lw_Z below #[Value.ref b] s) (F0 m pc ls [.int 1]) := by
  intro T hT X
  obtain ⟨fs, hret, hrun, hended, hW, hframe⟩ := X.leave (v := some (.int 1)) (hlocks := hlocks) (fun h => by rw [hr] at h; cases h)
  have hmeth' : T.vm.method? m = some meth := X.method'
  refine ⟨T.setFrames fs, ?_, .returned (some (.int 1)), hrun, hended, rfl, ⟨_, rfl⟩, hW, hframe⟩
  jvm_step X.here [X.here.top, hx, hb, hdg, hmeth', hr, ret, narrow_b1]
  (try refine ⟨rfl, ?_⟩); (try refine ⟨rfl, ?_⟩)
  first | (intro acts; rw [hret _ acts rfl rfl rfl]) | rw [hret _ _ rfl rfl rfl]
  exact Steps.refl _
/-- what holds at the law's entry: the machine, the code, the tables' words (any of lw_tbl by 'hts w (by decide +kernel)'), the script of L ints xs at the cell b, what the Statement gives of the start (any of its parts by flat_of_before) -/
def lw_At (p : Program) (s : State) (m : MethodId) (meth : Method) (c : Code) (b L : Nat) (xs : Nat → Int32) : Prop :=
  p.tables.exec = Jvm.exec ∧ c.code = code ∧ meth.sig.returnType = ret ∧ c.maxLocals = 4 ∧ s.vm.findClass R_law = some m.cls ∧ (∀ w ∈ lw_tbl, w.before #[Value.ref b] s = true) ∧ va_X b L xs s s.heap ∧ b < s.heap.size ∧ meth.locks = false ∧ (Jvm.Cond.and given_1 narrow_1).before #[Value.ref b] s = true

section SXA
variable {p : Program} {l : Launch} {e : Env} {R : Room} {s : State} {m : MethodId} {args : Array Value} {below : List Frame} {meth : Method} {c : Code} {Q : State → Prop} {D : va_G} {cl : List vw_C} {tys : List (ClassId × FieldType)} {A : Nat → Prop} {nL pc mc ms : Nat} {lv : List (Nat × Value)} {st : List Value} {ws : va_W} {cc : ByteArray} {own : String}
theorem n_astore_n (B : Bs p s m args meth c D cl tys A nL cc own) {k : Fin 4} {i : Nat} {x : Nat} {lv' : List (Nat × Value)} (hdg : decode cc pc = .ok (.astore_n k, 1)) (hi : (k : Nat) = i) (hn : i < nL) (hl : (i, Value.ref x) :: lv.filter (fun q => !(q.1 == i) && !(q.1 + 1 == i && q.2.category == 2)) = lv') (kk : Nx p l e R s m args below meth c D cl A nL mc ms Q (pc + 1) lv' st ws) : Nx p l e R s m args below meth c D cl A nL mc ms Q pc lv (.ref x :: st) ws := fun H locs ls hP hD hS hl9 => lv_astore_n B.1 B.2.1 hdg hi hl9 hn hl (fun ls' hl' => kk H locs ls' hP hD hS hl')
end SXA
set_option maxHeartbeats 8000000 in
set_option maxRecDepth 100000 in
theorem law_loop {p : Program} {l : Launch} {e : Env} {s : State} {m : MethodId} {args : Array Value} {below : List Frame} {meth : Method} {c : Code} {Q : State → Prop} {D : va_G} {g : Nat → ClassId} {A : Nat → Prop} {bo : Nat} {an : Nat → Nat} {ak : Nat → Nat} {bT : Nat} {aa : Nat → Nat} {hT : Nat} {hB : Nat} {ae : Nat → Nat} {ar : Nat → Nat} {bS : Nat} {bV : Nat} {th : Nat → Nat} {as : Nat → Nat} {av : Nat → Nat} {b : Nat → Nat} {sb L : Nat} {xs : Nat → Int32} (B : Bs p s m args meth c D vwCl (TY g) A 4 cL_law RL) (hsc : sc D A s s.heap) (hX : va_X sb L xs s s.heap) (hbl : sb < s.heap.size) (hbA : ¬ A sb) (hL : L ≤ 320) (hend : ∀ (k t : Nat) (S : MS) (ws : va_W), LW g bo an ak bT aa hT hB ae ar bS bV th as av b t t S S ws → Nx p l e room_1 s m args below meth c D vwCl A 4 99 2467 Q 1460 [(0, .ref sb), (1, .ref bo), (2, .ref (b 0)), (3, .int (nI k))] [] ws) : ∀ (nn k t : Nat) (S : MS) (ws : va_W), k ≤ L → L < k + nn → LW g bo an ak bT aa hT hB ae ar bS bV th as av b t t S S ws → Nx p l e room_1 s m args below meth c D vwCl A 4 99 2467 Q 18 [(0, .ref sb), (1, .ref bo), (2, .ref (b 0)), (3, .int (nI k))] [] ws := by
  intro nn
  induction nn with
  | zero => intro k t S ws h1 h2; exact absurd h2 (by omega)
  | succ nn ih =>
    intro k t S ws hk hn h
    refine n_iload_n B dL_law_18 rfl 3 rfl ?_
    refine n_aload_n B dL_law_19 rfl 0 rfl ?_
    refine n_slen B hX hbl hbA dL_law_20 ?_
    refine n_iconst B dL_law_21 ic_5 ?_
    refine n_isub B dL_law_22 ?_
    refine n_icmp_gt (tgt := 1460) B dL_law_23 rfl (fun hg => ?_) (fun hg => ?_)
    · exact hend k t S ws h
    · have hk5 : k + 5 ≤ L := lw_le hL hk hg
      have T : ∀ (t : Nat) (S : MS) (ws' : va_W), LW g bo an ak bT aa hT hB ae ar bS bV th as av b t t S S ws' → Nx p l e room_1 s m args below meth c D vwCl A 4 99 2467 Q 1454 [(0, .ref sb), (1, .ref bo), (2, .ref (b 0)), (3, .int (nI k))] [] ws' := by
        intro t' S' ws' h'
        refine n_iinc (lv' := [(3, _), (0, _), (1, _), (2, _)]) (v := nI (k + 5)) (k := 3) B dL_law_1454 rfl (by rw [ic_5]; exact nI_add k 5) (Nat.le_of_ble_eq_true rfl) rfl ?_
        refine n_goto (tgt := 18) B dL_law_1457 rfl ?_
        refine n_lv (lv' := [(0, _), (1, _), (2, _), (3, _)]) [1, 2, 3, 0] rfl ?_
        exact ih (k + 5) t' S' ws' hk5 (by omega) h'
      refine n_aload_n B dL_law_26 rfl 0 rfl ?_
      refine n_iload_n B dL_law_27 rfl 3 rfl ?_
      refine n_sldN B hX hbl hbA (by omega) hL dL_law_28 ?_
      refine n_bipush B dL_law_29 bp_63 ?_
      refine n_iand B dL_law_31 ?_
      by_cases k0 : xs k &&& 63 = 0
      · refine n_tableIn (off := 176) (tgt := 208) B dL_law_32 (by rw [k0]; decide) (by rw [k0]; decide) (by rw [k0]; rfl) rfl ?_
        exact law_case_0 B hsc hX hbl hbA hL hk5 h T
      by_cases k1 : xs k &&& 63 = 1
      · refine n_tableIn (off := 239) (tgt := 271) B dL_law_32 (by rw [k1]; decide) (by rw [k1]; decide) (by rw [k1]; rfl) rfl ?_
        exact law_case_1 B hsc hX hbl hbA hL hk5 h T
      by_cases k2 : xs k &&& 63 = 2
      · refine n_tableIn (off := 252) (tgt := 284) B dL_law_32 (by rw [k2]; decide) (by rw [k2]; decide) (by rw [k2]; rfl) rfl ?_
        exact law_case_2 B hsc hX hbl hbA hL hk5 h T
      by_cases k3 : xs k &&& 63 = 3
      · refine n_tableIn (off := 305) (tgt := 337) B dL_law_32 (by rw [k3]; decide) (by rw [k3]; decide) (by rw [k3]; rfl) rfl ?_
        exact law_case_3 B hsc hX hbl hbA hL hk5 h T
      by_cases k4 : xs k &&& 63 = 4
      · refine n_tableIn (off := 338) (tgt := 370) B dL_law_32 (by rw [k4]; decide) (by rw [k4]; decide) (by rw [k4]; rfl) rfl ?_
        exact law_case_4 B hsc hX hbl hbA hL hk5 h T
      by_cases k5 : xs k &&& 63 = 5
      · refine n_tableIn (off := 381) (tgt := 413) B dL_law_32 (by rw [k5]; decide) (by rw [k5]; decide) (by rw [k5]; rfl) rfl ?_
        exact law_case_5 B hsc hX hbl hbA hL hk5 h T
      by_cases k6 : xs k &&& 63 = 6
      · refine n_tableIn (off := 414) (tgt := 446) B dL_law_32 (by rw [k6]; decide) (by rw [k6]; decide) (by rw [k6]; rfl) rfl ?_
        exact law_case_6 B hsc hX hbl hbA hL hk5 h T
      by_cases k7 : xs k &&& 63 = 7
      · refine n_tableIn (off := 447) (tgt := 479) B dL_law_32 (by rw [k7]; decide) (by rw [k7]; decide) (by rw [k7]; rfl) rfl ?_
        exact law_case_7 B hsc hX hbl hbA hL hk5 h T
      by_cases k8 : xs k &&& 63 = 8
      · refine n_tableIn (off := 480) (tgt := 512) B dL_law_32 (by rw [k8]; decide) (by rw [k8]; decide) (by rw [k8]; rfl) rfl ?_
        exact law_case_8 B hsc hX hbl hbA hL hk5 h T
      by_cases k9 : xs k &&& 63 = 9
      · refine n_tableIn (off := 513) (tgt := 545) B dL_law_32 (by rw [k9]; decide) (by rw [k9]; decide) (by rw [k9]; rfl) rfl ?_
        exact law_case_9 B hsc hX hbl hbA hL hk5 h T
      by_cases k10 : xs k &&& 63 = 10
      · refine n_tableIn (off := 526) (tgt := 558) B dL_law_32 (by rw [k10]; decide) (by rw [k10]; decide) (by rw [k10]; rfl) rfl ?_
        exact law_case_10 B hsc hX hbl hbA hL hk5 h T
      by_cases k11 : xs k &&& 63 = 11
      · refine n_tableIn (off := 549) (tgt := 581) B dL_law_32 (by rw [k11]; decide) (by rw [k11]; decide) (by rw [k11]; rfl) rfl ?_
        exact law_case_11 B hsc hX hbl hbA hL hk5 h T
      by_cases k12 : xs k &&& 63 = 12
      · refine n_tableIn (off := 572) (tgt := 604) B dL_law_32 (by rw [k12]; decide) (by rw [k12]; decide) (by rw [k12]; rfl) rfl ?_
        exact law_case_12 B hsc hX hbl hbA hL hk5 h T
      by_cases k13 : xs k &&& 63 = 13
      · refine n_tableIn (off := 595) (tgt := 627) B dL_law_32 (by rw [k13]; decide) (by rw [k13]; decide) (by rw [k13]; rfl) rfl ?_
        exact law_case_13 B hsc hX hbl hbA hL hk5 h T
      by_cases k14 : xs k &&& 63 = 14
      · refine n_tableIn (off := 654) (tgt := 686) B dL_law_32 (by rw [k14]; decide) (by rw [k14]; decide) (by rw [k14]; rfl) rfl ?_
        exact law_case_14 B hsc hX hbl hbA hL hk5 h T
      by_cases k15 : xs k &&& 63 = 15
      · refine n_tableIn (off := 677) (tgt := 709) B dL_law_32 (by rw [k15]; decide) (by rw [k15]; decide) (by rw [k15]; rfl) rfl ?_
        exact law_case_15 B hsc hX hbl hbA hL hk5 h T
      by_cases k16 : xs k &&& 63 = 16
      · refine n_tableIn (off := 700) (tgt := 732) B dL_law_32 (by rw [k16]; decide) (by rw [k16]; decide) (by rw [k16]; rfl) rfl ?_
        exact law_case_16 B hsc hX hbl hbA hL hk5 h T
      by_cases k17 : xs k &&& 63 = 17
      · refine n_tableIn (off := 723) (tgt := 755) B dL_law_32 (by rw [k17]; decide) (by rw [k17]; decide) (by rw [k17]; rfl) rfl ?_
        exact law_case_17 B hsc hX hbl hbA hL hk5 h T
      by_cases k18 : xs k &&& 63 = 18
      · refine n_tableIn (off := 746) (tgt := 778) B dL_law_32 (by rw [k18]; decide) (by rw [k18]; decide) (by rw [k18]; rfl) rfl ?_
        exact law_case_18 B hsc hX hbl hbA hL hk5 h T
      by_cases k19 : xs k &&& 63 = 19
      · refine n_tableIn (off := 789) (tgt := 821) B dL_law_32 (by rw [k19]; decide) (by rw [k19]; decide) (by rw [k19]; rfl) rfl ?_
        exact law_case_19 B hsc hX hbl hbA hL hk5 h T
      by_cases k20 : xs k &&& 63 = 20
      · refine n_tableIn (off := 812) (tgt := 844) B dL_law_32 (by rw [k20]; decide) (by rw [k20]; decide) (by rw [k20]; rfl) rfl ?_
        exact law_case_20 B hsc hX hbl hbA hL hk5 h T
      by_cases k21 : xs k &&& 63 = 21
      · refine n_tableIn (off := 855) (tgt := 887) B dL_law_32 (by rw [k21]; decide) (by rw [k21]; decide) (by rw [k21]; rfl) rfl ?_
        exact law_case_21 B hsc hX hbl hbA hL hk5 h T
      by_cases k22 : xs k &&& 63 = 22
      · refine n_tableIn (off := 878) (tgt := 910) B dL_law_32 (by rw [k22]; decide) (by rw [k22]; decide) (by rw [k22]; rfl) rfl ?_
        exact law_case_22 B hsc hX hbl hbA hL hk5 h T
      by_cases k23 : xs k &&& 63 = 23
      · refine n_tableIn (off := 901) (tgt := 933) B dL_law_32 (by rw [k23]; decide) (by rw [k23]; decide) (by rw [k23]; rfl) rfl ?_
        exact law_case_23 B hsc hX hbl hbA hL hk5 h T
      by_cases k24 : xs k &&& 63 = 24
      · refine n_tableIn (off := 924) (tgt := 956) B dL_law_32 (by rw [k24]; decide) (by rw [k24]; decide) (by rw [k24]; rfl) rfl ?_
        exact law_case_24 B hsc hX hbl hbA hL hk5 h T
      by_cases k25 : xs k &&& 63 = 25
      · refine n_tableIn (off := 937) (tgt := 969) B dL_law_32 (by rw [k25]; decide) (by rw [k25]; decide) (by rw [k25]; rfl) rfl ?_
        exact law_case_25 B hsc hX hbl hbA hL hk5 h T
      by_cases k26 : xs k &&& 63 = 26
      · refine n_tableIn (off := 960) (tgt := 992) B dL_law_32 (by rw [k26]; decide) (by rw [k26]; decide) (by rw [k26]; rfl) rfl ?_
        exact law_case_26 B hsc hX hbl hbA hL hk5 h T
      by_cases k27 : xs k &&& 63 = 27
      · refine n_tableIn (off := 993) (tgt := 1025) B dL_law_32 (by rw [k27]; decide) (by rw [k27]; decide) (by rw [k27]; rfl) rfl ?_
        exact law_case_27 B hsc hX hbl hbA hL hk5 h T
      by_cases k28 : xs k &&& 63 = 28
      · refine n_tableIn (off := 1036) (tgt := 1068) B dL_law_32 (by rw [k28]; decide) (by rw [k28]; decide) (by rw [k28]; rfl) rfl ?_
        exact law_case_28 B hsc hX hbl hbA hL hk5 h T
      by_cases k29 : xs k &&& 63 = 29
      · refine n_tableIn (off := 1049) (tgt := 1081) B dL_law_32 (by rw [k29]; decide) (by rw [k29]; decide) (by rw [k29]; rfl) rfl ?_
        exact law_case_29 B hsc hX hbl hbA hL hk5 h T
      by_cases k30 : xs k &&& 63 = 30
      · refine n_tableIn (off := 1102) (tgt := 1134) B dL_law_32 (by rw [k30]; decide) (by rw [k30]; decide) (by rw [k30]; rfl) rfl ?_
        exact law_case_30 B hsc hX hbl hbA hL hk5 h T
      by_cases k31 : xs k &&& 63 = 31
      · refine n_tableIn (off := 1145) (tgt := 1177) B dL_law_32 (by rw [k31]; decide) (by rw [k31]; decide) (by rw [k31]; rfl) rfl ?_
        exact law_case_31 B hsc hX hbl hbA hL hk5 h T
      by_cases k32 : xs k &&& 63 = 32
      · refine n_tableIn (off := 1188) (tgt := 1220) B dL_law_32 (by rw [k32]; decide) (by rw [k32]; decide) (by rw [k32]; rfl) rfl ?_
        exact law_case_32 B hsc hX hbl hbA hL hk5 h T
      by_cases k33 : xs k &&& 63 = 33
      · refine n_tableIn (off := 1231) (tgt := 1263) B dL_law_32 (by rw [k33]; decide) (by rw [k33]; decide) (by rw [k33]; rfl) rfl ?_
        exact law_case_33 B hsc hX hbl hbA hL hk5 h T
      by_cases k34 : xs k &&& 63 = 34
      · refine n_tableIn (off := 1274) (tgt := 1306) B dL_law_32 (by rw [k34]; decide) (by rw [k34]; decide) (by rw [k34]; rfl) rfl ?_
        exact law_case_34 B hsc hX hbl hbA hL hk5 h T
      by_cases k35 : xs k &&& 63 = 35
      · refine n_tableIn (off := 1307) (tgt := 1339) B dL_law_32 (by rw [k35]; decide) (by rw [k35]; decide) (by rw [k35]; rfl) rfl ?_
        exact law_case_35 B hsc hX hbl hbA hL hk5 h T
      by_cases k36 : xs k &&& 63 = 36
      · refine n_tableIn (off := 1350) (tgt := 1382) B dL_law_32 (by rw [k36]; decide) (by rw [k36]; decide) (by rw [k36]; rfl) rfl ?_
        exact law_case_36 B hsc hX hbl hbA hL hk5 h T
      by_cases k37 : xs k &&& 63 = 37
      · refine n_tableIn (off := 1373) (tgt := 1405) B dL_law_32 (by rw [k37]; decide) (by rw [k37]; decide) (by rw [k37]; rfl) rfl ?_
        exact law_case_37 B hsc hX hbl hbA hL hk5 h T
      by_cases k38 : xs k &&& 63 = 38
      · refine n_tableIn (off := 1396) (tgt := 1428) B dL_law_32 (by rw [k38]; decide) (by rw [k38]; decide) (by rw [k38]; rfl) rfl ?_
        exact law_case_38 B hsc hX hbl hbA hL hk5 h T
      by_cases k39 : xs k &&& 63 = 39
      · refine n_tableIn (off := 1409) (tgt := 1441) B dL_law_32 (by rw [k39]; decide) (by rw [k39]; decide) (by rw [k39]; rfl) rfl ?_
        exact law_case_39 B hsc hX hbl hbA hL hk5 h T
      refine n_tableOut (tgt := 1454) B dL_law_32 (by have q0 := lv_neT k0 (show (0 : Int32).toInt = 0 from by decide); have q1 := lv_neT k1 (show (1 : Int32).toInt = 1 from by decide); have q2 := lv_neT k2 (show (2 : Int32).toInt = 2 from by decide); have q3 := lv_neT k3 (show (3 : Int32).toInt = 3 from by decide); have q4 := lv_neT k4 (show (4 : Int32).toInt = 4 from by decide); have q5 := lv_neT k5 (show (5 : Int32).toInt = 5 from by decide); have q6 := lv_neT k6 (show (6 : Int32).toInt = 6 from by decide); have q7 := lv_neT k7 (show (7 : Int32).toInt = 7 from by decide); have q8 := lv_neT k8 (show (8 : Int32).toInt = 8 from by decide); have q9 := lv_neT k9 (show (9 : Int32).toInt = 9 from by decide); have q10 := lv_neT k10 (show (10 : Int32).toInt = 10 from by decide); have q11 := lv_neT k11 (show (11 : Int32).toInt = 11 from by decide); have q12 := lv_neT k12 (show (12 : Int32).toInt = 12 from by decide); have q13 := lv_neT k13 (show (13 : Int32).toInt = 13 from by decide); have q14 := lv_neT k14 (show (14 : Int32).toInt = 14 from by decide); have q15 := lv_neT k15 (show (15 : Int32).toInt = 15 from by decide); have q16 := lv_neT k16 (show (16 : Int32).toInt = 16 from by decide); have q17 := lv_neT k17 (show (17 : Int32).toInt = 17 from by decide); have q18 := lv_neT k18 (show (18 : Int32).toInt = 18 from by decide); have q19 := lv_neT k19 (show (19 : Int32).toInt = 19 from by decide); have q20 := lv_neT k20 (show (20 : Int32).toInt = 20 from by decide); have q21 := lv_neT k21 (show (21 : Int32).toInt = 21 from by decide); have q22 := lv_neT k22 (show (22 : Int32).toInt = 22 from by decide); have q23 := lv_neT k23 (show (23 : Int32).toInt = 23 from by decide); have q24 := lv_neT k24 (show (24 : Int32).toInt = 24 from by decide); have q25 := lv_neT k25 (show (25 : Int32).toInt = 25 from by decide); have q26 := lv_neT k26 (show (26 : Int32).toInt = 26 from by decide); have q27 := lv_neT k27 (show (27 : Int32).toInt = 27 from by decide); have q28 := lv_neT k28 (show (28 : Int32).toInt = 28 from by decide); have q29 := lv_neT k29 (show (29 : Int32).toInt = 29 from by decide); have q30 := lv_neT k30 (show (30 : Int32).toInt = 30 from by decide); have q31 := lv_neT k31 (show (31 : Int32).toInt = 31 from by decide); have q32 := lv_neT k32 (show (32 : Int32).toInt = 32 from by decide); have q33 := lv_neT k33 (show (33 : Int32).toInt = 33 from by decide); have q34 := lv_neT k34 (show (34 : Int32).toInt = 34 from by decide); have q35 := lv_neT k35 (show (35 : Int32).toInt = 35 from by decide); have q36 := lv_neT k36 (show (36 : Int32).toInt = 36 from by decide); have q37 := lv_neT k37 (show (37 : Int32).toInt = 37 from by decide); have q38 := lv_neT k38 (show (38 : Int32).toInt = 38 from by decide); have q39 := lv_neT k39 (show (39 : Int32).toInt = 39 from by decide); omega) rfl ?_
      exact T t S ws h
