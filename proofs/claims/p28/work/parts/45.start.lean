theorem arr_of {ty : FieldType} {A : Array Value} {s : State} (h : (Cond.arrayClass ty).before A s = true) : ∃ cA : ClassId, ArrOfT s cA ty ∧ s.vm.findClass ("[" ++ ty.toString) = some cA := by
  simp only [Cond.before, Cond.holds, Cond.value] at h
  cases hc : s.vm.findClass ("[" ++ ty.toString) with
  | none => simp [hc] at h
  | some cA =>
    cases hk : s.vm.classes[cA]? with
    | none => simp [hc, hk] at h
    | some kA =>
      simp only [hc, hk, Option.bind_some, Option.map_some] at h
      cases hkk : kA.kind with
      | array comp t =>
        simp only [hkk] at h
        have e : t = ty := by simpa using h
        subst e
        exact ⟨cA, fun n z => ⟨(fun k h => by cases h), kA, hk, comp, hkk⟩, rfl⟩
      | _ => simp [hkk] at h
theorem arr_obj {n : String} {s : State} (h : va_AO n s) : ∃ cA : ClassId, ArrOfT s cA (.object n) ∧ va_RA s cA (.object n) := by
  obtain ⟨comp, c, k, h1, h2, h3, h4, h5⟩ := Cond.arrayOver_spec (va_AO.use (A := #[]) h)
  exact ⟨c, fun N z => ⟨(fun k h => by cases h), k, h3, comp, h4⟩, k, comp, h3, h4, h1, h5⟩
theorem st_tab_first {s : State} {args : Array Value} {A : Nat → Prop} (hts : ∀ w ∈ lw_tbl, w.before args s = true) (hs : ∀ w ∈ flatC (Jvm.Cond.and given_1 narrow_1), w.before args s = true) (hA : ∀ a : Nat, a < s.heap.size → ¬ A a) : sc_1 "CrossBook" "FIRST_LAWS" 4 tb_first A s s.heap := by
  obtain ⟨t, ht, hT⟩ := va_Tof (tm := .static "CrossBook" "FIRST_LAWS" "[I") (ty := .int) (N := 4) (f := fun j => .int (tb_first j)) (A := A) (by decide) (hs _ (by decide +kernel)) (va_eqt (hs _ (by decide +kernel))) (fun j hj => va_eqt (hs _ ((by decide +kernel : ∀ j, j < 4 → Cond.eq (.elem (.static "CrossBook" "FIRST_LAWS" "[I") (.int (Int32.ofNat j))) (.int (tb_first j)) ∈ flatC (Jvm.Cond.and given_1 narrow_1)) j hj))) hA
  exact ⟨t, va_Zof (hts _ (by decide +kernel)) (hts _ (by decide +kernel)) ht hA, hT⟩
theorem st_tab_lowest {s : State} {args : Array Value} {A : Nat → Prop} (hts : ∀ w ∈ lw_tbl, w.before args s = true) (hs : ∀ w ∈ flatC (Jvm.Cond.and given_1 narrow_1), w.before args s = true) (hA : ∀ a : Nat, a < s.heap.size → ¬ A a) : sc_1 "CrossBook" "LOWEST_LAWS" 4 tb_lowest A s s.heap := by
  obtain ⟨t, ht, hT⟩ := va_Tof (tm := .static "CrossBook" "LOWEST_LAWS" "[I") (ty := .int) (N := 4) (f := fun j => .int (tb_lowest j)) (A := A) (by decide) (hs _ (by decide +kernel)) (va_eqt (hs _ (by decide +kernel))) (fun j hj => va_eqt (hs _ ((by decide +kernel : ∀ j, j < 4 → Cond.eq (.elem (.static "CrossBook" "LOWEST_LAWS" "[I") (.int (Int32.ofNat j))) (.int (tb_lowest j)) ∈ flatC (Jvm.Cond.and given_1 narrow_1)) j hj))) hA
  exact ⟨t, va_Zof (hts _ (by decide +kernel)) (hts _ (by decide +kernel)) ht hA, hT⟩
theorem st_tab_highest {s : State} {args : Array Value} {A : Nat → Prop} (hts : ∀ w ∈ lw_tbl, w.before args s = true) (hs : ∀ w ∈ flatC (Jvm.Cond.and given_1 narrow_1), w.before args s = true) (hA : ∀ a : Nat, a < s.heap.size → ¬ A a) : sc_1 "CrossBook" "HIGHEST_LAWS" 4 tb_highest A s s.heap := by
  obtain ⟨t, ht, hT⟩ := va_Tof (tm := .static "CrossBook" "HIGHEST_LAWS" "[I") (ty := .int) (N := 4) (f := fun j => .int (tb_highest j)) (A := A) (by decide) (hs _ (by decide +kernel)) (va_eqt (hs _ (by decide +kernel))) (fun j hj => va_eqt (hs _ ((by decide +kernel : ∀ j, j < 4 → Cond.eq (.elem (.static "CrossBook" "HIGHEST_LAWS" "[I") (.int (Int32.ofNat j))) (.int (tb_highest j)) ∈ flatC (Jvm.Cond.and given_1 narrow_1)) j hj))) hA
  exact ⟨t, va_Zof (hts _ (by decide +kernel)) (hts _ (by decide +kernel)) ht hA, hT⟩
theorem st_tab_above {s : State} {args : Array Value} {A : Nat → Prop} (hts : ∀ w ∈ lw_tbl, w.before args s = true) (hs : ∀ w ∈ flatC (Jvm.Cond.and given_1 narrow_1), w.before args s = true) (hA : ∀ a : Nat, a < s.heap.size → ¬ A a) : sc_1 "CrossBook" "ABOVE" 6 tb_above A s s.heap := by
  obtain ⟨t, ht, hT⟩ := va_Tof (tm := .static "CrossBook" "ABOVE" "[I") (ty := .int) (N := 6) (f := fun j => .int (tb_above j)) (A := A) (by decide) (hs _ (by decide +kernel)) (va_eqt (hs _ (by decide +kernel))) (fun j hj => va_eqt (hs _ ((by decide +kernel : ∀ j, j < 6 → Cond.eq (.elem (.static "CrossBook" "ABOVE" "[I") (.int (Int32.ofNat j))) (.int (tb_above j)) ∈ flatC (Jvm.Cond.and given_1 narrow_1)) j hj))) hA
  exact ⟨t, va_Zof (hts _ (by decide +kernel)) (hts _ (by decide +kernel)) ht hA, hT⟩
theorem st_tab_bodies {s : State} {args : Array Value} {A : Nat → Prop} (hts : ∀ w ∈ lw_tbl, w.before args s = true) (hs : ∀ w ∈ flatC (Jvm.Cond.and given_1 narrow_1), w.before args s = true) (hA : ∀ a : Nat, a < s.heap.size → ¬ A a) : sc_1 "CrossBook$Thing" "BODIES" 24 tb_bodies A s s.heap := by
  obtain ⟨t, ht, hT⟩ := va_Tof (tm := .static "CrossBook$Thing" "BODIES" "[I") (ty := .int) (N := 24) (f := fun j => .int (tb_bodies j)) (A := A) (by decide) (hs _ (by decide +kernel)) (va_eqt (hs _ (by decide +kernel))) (fun j hj => va_eqt (hs _ ((by decide +kernel : ∀ j, j < 24 → Cond.eq (.elem (.static "CrossBook$Thing" "BODIES" "[I") (.int (Int32.ofNat j))) (.int (tb_bodies j)) ∈ flatC (Jvm.Cond.and given_1 narrow_1)) j hj))) hA
  exact ⟨t, va_Zof (hts _ (by decide +kernel)) (hts _ (by decide +kernel)) ht hA, hT⟩
theorem st_strs {s : State} {args : Array Value} {A : Nat → Prop} (hts : ∀ w ∈ lw_tbl, w.before args s = true) (hs : ∀ w ∈ flatC (Jvm.Cond.and given_1 narrow_1), w.before args s = true) (hA : ∀ a : Nat, a < s.heap.size → ¬ A a) : ∃ adK adV : Nat → Nat, vk_S 13 lenS bytS adK adV A s s.heap ∧ ∀ i, i < 13 → vk_R "CrossBook$Teller" (ixS.getD i 0) (txS.getD i "") (adK i) s := by
  obtain ⟨adK, adV, h1, h2⟩ := vk_Sof (args := args) (s := s) (N := 13) (tm := fun i => (.string "CrossBook$Teller" (ixS.getD i 0))) (len := lenS) (byt := bytS) (A := A) (fun i hi => len_lt hi)
    (fun i hi => hs _ ((by decide +kernel : ∀ i, i < 13 → Cond.exactly (.string "CrossBook$Teller" (ixS.getD i 0)) "java/lang/String" ∈ flatC (Jvm.Cond.and given_1 narrow_1)) i hi))
    (fun i hi => hs _ ((by decide +kernel : ∀ i, i < 13 → Cond.eq (.field (.string "CrossBook$Teller" (ixS.getD i 0)) "java/lang/String" "coder" "B") (.int 0) ∈ flatC (Jvm.Cond.and given_1 narrow_1)) i hi))
    (fun i hi => hs _ ((by decide +kernel : ∀ i, i < 13 → Cond.arrayOf (.field (.string "CrossBook$Teller" (ixS.getD i 0)) "java/lang/String" "value" "[B") .byte ∈ flatC (Jvm.Cond.and given_1 narrow_1)) i hi))
    (fun i hi => hs _ ((by decide +kernel : ∀ i, i < 13 → Cond.eq (.length (.field (.string "CrossBook$Teller" (ixS.getD i 0)) "java/lang/String" "value" "[B")) (.int (Int32.ofNat (lenS.getD i 0))) ∈ flatC (Jvm.Cond.and given_1 narrow_1)) i hi))
    (fun i hi j hj => hs _ ((by decide +kernel : ∀ i, i < 13 → ∀ j, j < lenS.getD i 0 → Cond.eq (.elem (.field (.string "CrossBook$Teller" (ixS.getD i 0)) "java/lang/String" "value" "[B") (.int (Int32.ofNat j))) (.int ((bytS.getD i []).getD j 0)) ∈ flatC (Jvm.Cond.and given_1 narrow_1)) i hi j hj))
    (fun i j hi hj hij => by
      have h := (by decide +kernel : ∀ i, i < 13 → ∀ j, j < 13 → i < j → Cond.not (Cond.eq (.string "CrossBook$Teller" (ixS.getD i 0)) (.string "CrossBook$Teller" (ixS.getD j 0))) ∈ flatC (Jvm.Cond.and given_1 narrow_1))
      rcases Nat.lt_or_gt_of_ne hij with q | q
      · exact Or.inl (hs _ (h i hi j hj q))
      · exact Or.inr (hs _ (h j hj i hi q))) hA
  refine ⟨adK, adV, h1, fun i hi => ?_⟩
  exact vk_R.of (A := args) (hts _ ((by decide +kernel : ∀ i, i < 13 → Cond.stringRef "CrossBook$Teller" (ixS.getD i 0) (txS.getD i "") ∈ lw_tbl) i hi)) (h2 i hi)
theorem st_two {s : State} {args : Array Value} {A : Nat → Prop} (hts : ∀ w ∈ lw_tbl, w.before args s = true) (hs : ∀ w ∈ flatC (Jvm.Cond.and given_1 narrow_1), w.before args s = true) (hA : ∀ a : Nat, a < s.heap.size → ¬ A a) : va_Z "java/lang/String" "COMPACT_STRINGS" "Z" (.int 1) A s s.heap ∧ va_Zq "jdk/internal/util/Preconditions" "SIOOBE_FORMATTER" "Ljava/util/function/BiFunction;" A s s.heap ∧ (va_AO "CrossBook$Sheet" s ∧ va_AO "CrossBook$Shelf" s) :=
  ⟨va_Zof (hts _ (by decide +kernel)) (hts _ (by decide +kernel)) (va_eqt (hs _ (by decide +kernel))) hA, va_Zqof (hts _ (by decide +kernel)) (hts _ (by decide +kernel)) (hs _ (by decide +kernel)) hA, va_AO.of (hts _ (by decide +kernel)), va_AO.of (hts _ (by decide +kernel))⟩
theorem st_nw {s : State} {args : Array Value} (hts : ∀ w ∈ lw_tbl, w.before args s = true) : nw s := fun w hw => va_Nw.of ((by decide +kernel : ∀ w ∈ nwl, w.onTables = true) w hw) (hts w (nwl_in w hw))
