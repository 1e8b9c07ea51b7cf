/-! ===== Sx: W over a world that is a list of cells, for methods that make no cell; its rows ===== -/
def Sx (p : Program) (l : Launch) (e : Env) (R : Room) (s : State) (m : MethodId) (args : Array Value) (below : List Frame) (meth : Method) (c : Code) (D : va_G) (cl : List vw_C) (A : Nat → Prop) (nL : Nat) (Q : State → Prop) (pc : Nat) (lv : List (Nat × Value)) (st : List Value) (ws : va_W) : Prop :=
  ∀ (H : Heap) (locs : List Loc) (ls : Array Slot), va_P D cl ws H → va_D A ws → va_S A s.heap H locs → lv_has ls nL lv → W p l e R s m args below meth c H locs 0 0 Q (F0 m pc ls st)
/-- what holds in a method: the machine, its code, its class, the tables' words, the classes as they lie -/
def Bs (p : Program) (s : State) (m : MethodId) (args : Array Value) (meth : Method) (c : Code) (D : va_G) (cl : List vw_C) (tys : List (ClassId × FieldType)) (A : Nat → Prop) (nL : Nat) (cc : ByteArray) (own : String) : Prop :=
  p.tables.exec = Jvm.exec ∧ c.code = cc ∧ c.maxLocals = nL ∧ s.vm.findClass own = some m.cls ∧ (∀ w ∈ lw_gd, w.before args s = true) ∧ va_K D cl tys s ∧ meth.locks = false ∧ (∀ q, s.heap.size ≤ q → A q)
/-- a static row of whole numbers that nobody writes -/
def sc_1 (C n : String) (N : Nat) (f : Nat → Int32) (A : Nat → Prop) (U : State) (H : Heap) : Prop := ∃ t : Nat, va_Z C n "[I" (.ref t) A U H ∧ va_T .int t N (fun j => .int (f j)) A U H
theorem sc_1.moved {C n : String} {N : Nat} {f : Nat → Int32} {A : Nat → Prop} {u U : State} {H : Heap} (hvm : u.vm.Alike U.vm) (h : sc_1 C n N f A u H) : sc_1 C n N f A U H := by
  obtain ⟨t, h1, h2⟩ := h
  exact ⟨t, h1.moved hvm, h2.moved hvm⟩
theorem sc_1.kept {C n : String} {N : Nat} {f : Nat → Int32} {A : Nat → Prop} {U : State} {H H1 : Heap} (h : sc_1 C n N f A U H) (hq : ∀ a : Nat, a < H.size → ¬ A a → H1[a]? = H[a]?) : sc_1 C n N f A U H1 := by
  obtain ⟨t, h1, h2⟩ := h
  exact ⟨t, h1.kept hq, h2.kept hq⟩
theorem sc_1.narrow {C n : String} {N : Nat} {f : Nat → Int32} {A B : Nat → Prop} {U : State} {H : Heap} (h : sc_1 C n N f A U H) (hAB : ∀ q, B q → A q) : sc_1 C n N f B U H := by
  obtain ⟨t, h1, h2⟩ := h
  exact ⟨t, h1.narrow hAB, h2.narrow hAB⟩
def tb_first : Nat → Int32 := fun j => ([5, 11, 2, 3] : List Int32).getD j 0
def tb_lowest : Nat → Int32 := fun j => ([1, 2, 1, 1] : List Int32).getD j 0
def tb_highest : Nat → Int32 := fun j => ([20, 30, 8, 20] : List Int32).getD j 0
def tb_above : Nat → Int32 := fun j => ([-1, 0, 0, 0, 1, 2] : List Int32).getD j 0
def tb_bodies : Nat → Int32 := fun j => ([10, 11, 12, 13, 0, 20, 0, 0, 30, 0, 0, 31, 0, 0, 61, 60, 51, 0, 50, 0, 40, 41, 0, 0] : List Int32).getD j 0
def nw (U : State) : Prop := ∀ w ∈ nwl, w.before #[] U = true
theorem nw.same {u U : State} (h : u.vm = U.vm) (hZ : nw u) : nw U := by
  intro w hw
  have h1 := hZ w hw
  have ho : ∀ w ∈ nwl, w.onTables = true := by decide +kernel
  exact va_Nw.same (ho w hw) h h1
theorem nw.warm {s U : State} (hW : s.WarmedH U.vm) (hZ : nw s) : nw U := by
  intro w hw
  have h1 := hZ w hw
  simp only [nwl, List.mem_cons, List.not_mem_nil, or_false] at hw
  rcases hw with rfl | rfl | rfl | rfl | rfl | rfl | rfl | rfl | rfl | rfl | rfl | rfl | rfl <;> first | exact va_Nw.warmM hW h1 | exact va_Nw.warmF hW h1
theorem nw.use {U : State} {w : Cond} (h : nw U) (hw : w ∈ nwl) (args : Array Value) : w.before args U = true := by
  have ho : ∀ w ∈ nwl, w.onTables = true := by decide +kernel
  exact va_Nw.use (ho w hw) (h w hw)
def lenS : List Nat := [5, 4, 3, 6, 8, 8, 2, 3, 3, 4, 5, 6, 4]
def bytS : List (List Int32) := [[99, 104, 105, 108, 100], [107, 101, 112, 116], [105, 108, 108], [116, 114, 117, 97, 110, 116], [98, 97, 114, 101, 102, 111, 111, 116], [99, 97, 116, 99, 104, 105, 110, 103], [105, 110], [102, 97, 114], [100, 97, 121], [115, 105, 99, 107], [116, 111, 100, 97, 121], [115, 116, 114, 111, 110, 103], [108, 111, 115, 116]]
def ixS : List Nat := [117, 119, 121, 123, 125, 127, 129, 131, 133, 135, 136, 137, 139]
def txS : List String := ["child", "kept", "ill", "truant", "barefoot", "catching", "in", "far", "day", "sick", "today", "strong", "lost"]
/-- the String constants (their addresses ride in D, at numbers that no class has), and two statics of the JDK's -/
def ss (D : va_G) (A : Nat → Prop) (U : State) (H : Heap) : Prop :=
  vk_S 13 lenS bytS (D.2 100) (D.2 101) A U H ∧ (∀ i, i < 13 → vk_R "CrossBook$Teller" (ixS.getD i 0) (txS.getD i "") (D.2 100 i) U) ∧ va_Z "java/lang/String" "COMPACT_STRINGS" "Z" (.int 1) A U H ∧ va_Zq "jdk/internal/util/Preconditions" "SIOOBE_FORMATTER" "Ljava/util/function/BiFunction;" A U H ∧ (va_AO "CrossBook$Sheet" U ∧ va_AO "CrossBook$Shelf" U)
theorem ss.warm {D : va_G} {A : Nat → Prop} {u U : State} {H : Heap} (hW : u.WarmedH U.vm) (h : ss D A u H) : ss D A U H := ⟨vk_S.moved hW.alike h.1, fun i hi => vk_R.warm hW (h.2.1 i hi), h.2.2.1.moved hW.alike, h.2.2.2.1.moved hW.alike, h.2.2.2.2.1.moved hW.alike, h.2.2.2.2.2.moved hW.alike⟩
theorem ss.same {D : va_G} {A : Nat → Prop} {u U : State} {H : Heap} (hv : u.vm = U.vm) (h : ss D A u H) : ss D A U H := by
  have ha : u.vm.Alike U.vm := by rw [hv]; exact Vm.Alike.refl U.vm
  exact ⟨vk_S.moved ha h.1, fun i hi => vk_R.same hv.symm (h.2.1 i hi), h.2.2.1.moved ha, h.2.2.2.1.moved ha, h.2.2.2.2.1.moved ha, h.2.2.2.2.2.moved ha⟩
theorem ss.kept {D : va_G} {A : Nat → Prop} {U : State} {H H1 : Heap} (h : ss D A U H) (hq : ∀ a : Nat, a < H.size → ¬ A a → H1[a]? = H[a]?) : ss D A U H1 := ⟨vk_S.kept h.1 hq, h.2.1, h.2.2.1.kept hq, h.2.2.2.1.kept hq, h.2.2.2.2⟩
theorem ss.narrow {D : va_G} {A B : Nat → Prop} {U : State} {H : Heap} (h : ss D A U H) (hAB : ∀ q, B q → A q) : ss D B U H := ⟨vk_S.narrow h.1 hAB, h.2.1, h.2.2.1.narrow hAB, h.2.2.2.1.narrow hAB, h.2.2.2.2⟩
def sc (D : va_G) (A : Nat → Prop) (U : State) (H : Heap) : Prop :=
  sc_1 "CrossBook" "FIRST_LAWS" 4 tb_first A U H ∧ sc_1 "CrossBook" "LOWEST_LAWS" 4 tb_lowest A U H ∧ sc_1 "CrossBook" "HIGHEST_LAWS" 4 tb_highest A U H ∧ sc_1 "CrossBook" "ABOVE" 6 tb_above A U H ∧ sc_1 "CrossBook$Thing" "BODIES" 24 tb_bodies A U H ∧ (nw U ∧ ss D A U H)
theorem sc.warm {D : va_G} {A : Nat → Prop} {u U : State} {H : Heap} (hW : u.WarmedH U.vm) (h : sc D A u H) : sc D A U H := ⟨h.1.moved hW.alike, h.2.1.moved hW.alike, h.2.2.1.moved hW.alike, h.2.2.2.1.moved hW.alike, h.2.2.2.2.1.moved hW.alike, h.2.2.2.2.2.1.warm hW, h.2.2.2.2.2.2.warm hW⟩
theorem sc.same {D : va_G} {A : Nat → Prop} {u U : State} {H : Heap} (hv : u.vm = U.vm) (h : sc D A u H) : sc D A U H := by
  have ha : u.vm.Alike U.vm := by rw [hv]; exact Vm.Alike.refl U.vm
  exact ⟨h.1.moved ha, h.2.1.moved ha, h.2.2.1.moved ha, h.2.2.2.1.moved ha, h.2.2.2.2.1.moved ha, h.2.2.2.2.2.1.same hv, h.2.2.2.2.2.2.same hv⟩
theorem sc.kept {D : va_G} {A : Nat → Prop} {U : State} {H H1 : Heap} (h : sc D A U H) (hq : ∀ a : Nat, a < H.size → ¬ A a → H1[a]? = H[a]?) : sc D A U H1 := ⟨h.1.kept hq, h.2.1.kept hq, h.2.2.1.kept hq, h.2.2.2.1.kept hq, h.2.2.2.2.1.kept hq, h.2.2.2.2.2.1, h.2.2.2.2.2.2.kept hq⟩
theorem sc.narrow {D : va_G} {A B : Nat → Prop} {U : State} {H : Heap} (h : sc D A U H) (hAB : ∀ q, B q → A q) : sc D B U H := ⟨h.1.narrow hAB, h.2.1.narrow hAB, h.2.2.1.narrow hAB, h.2.2.2.1.narrow hAB, h.2.2.2.2.1.narrow hAB, h.2.2.2.2.2.1, h.2.2.2.2.2.2.narrow hAB⟩
/-- the words of every method: its code, and all the tables' -/
def WW (y : MethodName) (b : ByteArray) (n : Nat) (ret : Option FieldType) : List Cond := Cond.code y b n ret :: lw_gd
def BW (D : va_G) (cl : List vw_C) (a0 : List Nat) (u : va_W) (t : State) : Prop := va_P D cl u t.heap ∧ u.map Prod.fst = a0
def CP (D : va_G) (cl : List vw_C) (tys : List (ClassId × FieldType)) (av : List Value) (cells : va_W) (sz : Nat) : Array Value → State → Prop :=
  va_Pc av (fun U => U.heap.size = sz ∧ va_P D cl cells U.heap ∧ va_K D cl tys U ∧ va_D (fun _ => True) cells ∧ sc D (va_A cells sz) U U.heap)
/-- a contract: from the cells 'cells' the method answers an int r and leaves the cells u (at the same addresses), with 'post r u' -/
def Ci (l : Launch) (y : MethodName) (ws : List Cond) (rm : Room) (D : va_G) (cl : List vw_C) (tys : List (ClassId × FieldType)) (av : List Value) (cells : va_W) (post : Int32 → va_W → Prop) : Prop :=
  ∀ sz : Nat, Met l y ws rm (CP D cl tys av cells sz) (va_Qi post (BW D cl (cells.map Prod.fst)) (va_A cells sz)) 0 0 (va_A cells sz)
def Cl (l : Launch) (y : MethodName) (ws : List Cond) (rm : Room) (D : va_G) (cl : List vw_C) (tys : List (ClassId × FieldType)) (av : List Value) (cells : va_W) (post : Int64 → va_W → Prop) : Prop :=
  ∀ sz : Nat, Met l y ws rm (CP D cl tys av cells sz) (va_Ql post (BW D cl (cells.map Prod.fst)) (va_A cells sz)) 0 0 (va_A cells sz)
def Cv (l : Launch) (y : MethodName) (ws : List Cond) (rm : Room) (D : va_G) (cl : List vw_C) (tys : List (ClassId × FieldType)) (av : List Value) (cells : va_W) (post : va_W → Prop) : Prop :=
  ∀ sz : Nat, Met l y ws rm (CP D cl tys av cells sz) (va_Qv post (BW D cl (cells.map Prod.fst)) (va_A cells sz)) 0 0 (va_A cells sz)
section SXR
variable {p : Program} {l : Launch} {e : Env} {R : Room} {s : State} {m : MethodId} {args : Array Value} {below : List Frame} {meth : Method} {c : Code} {Q : State → Prop} {D : va_G} {cl : List vw_C} {tys : List (ClassId × FieldType)} {A : Nat → Prop} {nL pc : Nat} {lv : List (Nat × Value)} {st : List Value} {ws : va_W} {cc : ByteArray} {own : String}
set_option maxHeartbeats 1000000 in
theorem s_iconst (B : Bs p s m args meth c D cl tys A nL cc own) {n : Int} {v : Int32} (hdg : decode cc pc = .ok (.iconst n, 1)) (hv : Int32.ofInt n = v) (k : Sx p l e R s m args below meth c D cl A nL Q (pc + 1) lv (.int v :: st) ws) : Sx p l e R s m args below meth c D cl A nL Q pc lv (st) ws := fun H locs ls hP hD hS hl9 => lv_iconst B.1 B.2.1 hdg hv (k H locs ls hP hD hS hl9)
set_option maxHeartbeats 1000000 in
theorem s_bipush (B : Bs p s m args meth c D cl tys A nL cc own) {n : Int} {v : Int32} (hdg : decode cc pc = .ok (.bipush n, 2)) (hv : (Int8.ofInt n).toInt32 = v) (k : Sx p l e R s m args below meth c D cl A nL Q (pc + 2) lv (.int v :: st) ws) : Sx p l e R s m args below meth c D cl A nL Q pc lv (st) ws := fun H locs ls hP hD hS hl9 => lv_bipush B.1 B.2.1 hdg hv (k H locs ls hP hD hS hl9)
set_option maxHeartbeats 1000000 in
theorem s_sipush (B : Bs p s m args meth c D cl tys A nL cc own) {n : Int} {v : Int32} (hdg : decode cc pc = .ok (.sipush n, 3)) (hv : (Int16.ofInt n).toInt32 = v) (k : Sx p l e R s m args below meth c D cl A nL Q (pc + 3) lv (.int v :: st) ws) : Sx p l e R s m args below meth c D cl A nL Q pc lv (st) ws := fun H locs ls hP hD hS hl9 => lv_sipush B.1 B.2.1 hdg hv (k H locs ls hP hD hS hl9)
set_option maxHeartbeats 1000000 in
theorem s_lconst (B : Bs p s m args meth c D cl tys A nL cc own) {n : Fin 2} {v : Int64} (hdg : decode cc pc = .ok (.lconst n, 1)) (hv : Int64.ofNat (n : Nat) = v) (k : Sx p l e R s m args below meth c D cl A nL Q (pc + 1) lv (.long v :: st) ws) : Sx p l e R s m args below meth c D cl A nL Q pc lv (st) ws := fun H locs ls hP hD hS hl9 => lv_lconst B.1 B.2.1 hdg hv (k H locs ls hP hD hS hl9)
set_option maxHeartbeats 1000000 in
theorem s_iload_n (B : Bs p s m args meth c D cl tys A nL cc own) {k : Fin 4} {i : Nat} {x : Int32} (hdg : decode cc pc = .ok (.iload_n k, 1)) (hi : (k : Nat) = i) (j : Nat) (hj : lv[j]? = some (i, (.int x))) (k : Sx p l e R s m args below meth c D cl A nL Q (pc + 1) lv (.int x :: st) ws) : Sx p l e R s m args below meth c D cl A nL Q pc lv (st) ws := fun H locs ls hP hD hS hl9 => lv_iload_n B.1 B.2.1 hdg hi (lv_at hl9 j hj) (k H locs ls hP hD hS hl9)
set_option maxHeartbeats 1000000 in
theorem s_iload (B : Bs p s m args meth c D cl tys A nL cc own) {i : Nat} {x : Int32} (hdg : decode cc pc = .ok (.iload i, 2)) (j : Nat) (hj : lv[j]? = some (i, (.int x))) (k : Sx p l e R s m args below meth c D cl A nL Q (pc + 2) lv (.int x :: st) ws) : Sx p l e R s m args below meth c D cl A nL Q pc lv (st) ws := fun H locs ls hP hD hS hl9 => lv_iload B.1 B.2.1 hdg (lv_at hl9 j hj) (k H locs ls hP hD hS hl9)
set_option maxHeartbeats 1000000 in
theorem s_lload_n (B : Bs p s m args meth c D cl tys A nL cc own) {k : Fin 4} {i : Nat} {x : Int64} (hdg : decode cc pc = .ok (.lload_n k, 1)) (hi : (k : Nat) = i) (j : Nat) (hj : lv[j]? = some (i, (.long x))) (k : Sx p l e R s m args below meth c D cl A nL Q (pc + 1) lv (.long x :: st) ws) : Sx p l e R s m args below meth c D cl A nL Q pc lv (st) ws := fun H locs ls hP hD hS hl9 => lv_lload_n B.1 B.2.1 hdg hi (lv_at hl9 j hj) (k H locs ls hP hD hS hl9)
set_option maxHeartbeats 1000000 in
theorem s_lload (B : Bs p s m args meth c D cl tys A nL cc own) {i : Nat} {x : Int64} (hdg : decode cc pc = .ok (.lload i, 2)) (j : Nat) (hj : lv[j]? = some (i, (.long x))) (k : Sx p l e R s m args below meth c D cl A nL Q (pc + 2) lv (.long x :: st) ws) : Sx p l e R s m args below meth c D cl A nL Q pc lv (st) ws := fun H locs ls hP hD hS hl9 => lv_lload B.1 B.2.1 hdg (lv_at hl9 j hj) (k H locs ls hP hD hS hl9)
set_option maxHeartbeats 1000000 in
theorem s_aload_n (B : Bs p s m args meth c D cl tys A nL cc own) {k : Fin 4} {i : Nat} {x : Nat} (hdg : decode cc pc = .ok (.aload_n k, 1)) (hi : (k : Nat) = i) (j : Nat) (hj : lv[j]? = some (i, (.ref x))) (k : Sx p l e R s m args below meth c D cl A nL Q (pc + 1) lv (.ref x :: st) ws) : Sx p l e R s m args below meth c D cl A nL Q pc lv (st) ws := fun H locs ls hP hD hS hl9 => lv_aload_n B.1 B.2.1 hdg hi (lv_at hl9 j hj) (k H locs ls hP hD hS hl9)
set_option maxHeartbeats 1000000 in
theorem s_aload (B : Bs p s m args meth c D cl tys A nL cc own) {i : Nat} {x : Nat} (hdg : decode cc pc = .ok (.aload i, 2)) (j : Nat) (hj : lv[j]? = some (i, (.ref x))) (k : Sx p l e R s m args below meth c D cl A nL Q (pc + 2) lv (.ref x :: st) ws) : Sx p l e R s m args below meth c D cl A nL Q pc lv (st) ws := fun H locs ls hP hD hS hl9 => lv_aload B.1 B.2.1 hdg (lv_at hl9 j hj) (k H locs ls hP hD hS hl9)
set_option maxHeartbeats 1000000 in
theorem s_istore_n (B : Bs p s m args meth c D cl tys A nL cc own) {k : Fin 4} {i : Nat} {x : Int32} {lv' : List (Nat × Value)} (hdg : decode cc pc = .ok (.istore_n k, 1)) (hi : (k : Nat) = i) (hn : i < nL) (hl : (i, Value.int x) :: lv.filter (fun q => !(q.1 == i) && !(q.1 + 1 == i && q.2.category == 2)) = lv') (kk : Sx p l e R s m args below meth c D cl A nL Q (pc + 1) lv' st ws) : Sx p l e R s m args below meth c D cl A nL Q pc lv (.int x :: st) ws := fun H locs ls hP hD hS hl9 => lv_istore_n B.1 B.2.1 hdg hi hl9 hn hl (fun ls' hl' => kk H locs ls' hP hD hS hl')
set_option maxHeartbeats 1000000 in
theorem s_istore (B : Bs p s m args meth c D cl tys A nL cc own) {i : Nat} {x : Int32} {lv' : List (Nat × Value)} (hdg : decode cc pc = .ok (.istore i, 2)) (hn : i < nL) (hl : (i, Value.int x) :: lv.filter (fun q => !(q.1 == i) && !(q.1 + 1 == i && q.2.category == 2)) = lv') (kk : Sx p l e R s m args below meth c D cl A nL Q (pc + 2) lv' st ws) : Sx p l e R s m args below meth c D cl A nL Q pc lv (.int x :: st) ws := fun H locs ls hP hD hS hl9 => lv_istore B.1 B.2.1 hdg hl9 hn hl (fun ls' hl' => kk H locs ls' hP hD hS hl')
set_option maxHeartbeats 1000000 in
theorem s_lstore_n (B : Bs p s m args meth c D cl tys A nL cc own) {k : Fin 4} {i : Nat} {x : Int64} {lv' : List (Nat × Value)} (hdg : decode cc pc = .ok (.lstore_n k, 1)) (hi : (k : Nat) = i) (hn : i + 1 < nL) (hl : (i, Value.long x) :: lv.filter (fun q => !(q.1 == i) && (!(q.1 == i + 1) && !(q.1 + 1 == i && q.2.category == 2))) = lv') (kk : Sx p l e R s m args below meth c D cl A nL Q (pc + 1) lv' st ws) : Sx p l e R s m args below meth c D cl A nL Q pc lv (.long x :: st) ws := fun H locs ls hP hD hS hl9 => lv_lstore_n B.1 B.2.1 hdg hi hl9 hn hl (fun ls' hl' => kk H locs ls' hP hD hS hl')
set_option maxHeartbeats 1000000 in
theorem s_lstore (B : Bs p s m args meth c D cl tys A nL cc own) {i : Nat} {x : Int64} {lv' : List (Nat × Value)} (hdg : decode cc pc = .ok (.lstore i, 2)) (hn : i + 1 < nL) (hl : (i, Value.long x) :: lv.filter (fun q => !(q.1 == i) && (!(q.1 == i + 1) && !(q.1 + 1 == i && q.2.category == 2))) = lv') (kk : Sx p l e R s m args below meth c D cl A nL Q (pc + 2) lv' st ws) : Sx p l e R s m args below meth c D cl A nL Q pc lv (.long x :: st) ws := fun H locs ls hP hD hS hl9 => lv_lstore B.1 B.2.1 hdg hl9 hn hl (fun ls' hl' => kk H locs ls' hP hD hS hl')
set_option maxHeartbeats 1000000 in
theorem s_astore_n (B : Bs p s m args meth c D cl tys A nL cc own) {k : Fin 4} {i : Nat} {x : Nat} {lv' : List (Nat × Value)} (hdg : decode cc pc = .ok (.astore_n k, 1)) (hi : (k : Nat) = i) (hn : i < nL) (hl : (i, Value.ref x) :: lv.filter (fun q => !(q.1 == i) && !(q.1 + 1 == i && q.2.category == 2)) = lv') (kk : Sx p l e R s m args below meth c D cl A nL Q (pc + 1) lv' st ws) : Sx p l e R s m args below meth c D cl A nL Q pc lv (.ref x :: st) ws := fun H locs ls hP hD hS hl9 => lv_astore_n B.1 B.2.1 hdg hi hl9 hn hl (fun ls' hl' => kk H locs ls' hP hD hS hl')
set_option maxHeartbeats 1000000 in
theorem s_astore (B : Bs p s m args meth c D cl tys A nL cc own) {i : Nat} {x : Nat} {lv' : List (Nat × Value)} (hdg : decode cc pc = .ok (.astore i, 2)) (hn : i < nL) (hl : (i, Value.ref x) :: lv.filter (fun q => !(q.1 == i) && !(q.1 + 1 == i && q.2.category == 2)) = lv') (kk : Sx p l e R s m args below meth c D cl A nL Q (pc + 2) lv' st ws) : Sx p l e R s m args below meth c D cl A nL Q pc lv (.ref x :: st) ws := fun H locs ls hP hD hS hl9 => lv_astore B.1 B.2.1 hdg hl9 hn hl (fun ls' hl' => kk H locs ls' hP hD hS hl')
set_option maxHeartbeats 1000000 in
theorem s_iinc (B : Bs p s m args meth c D cl tys A nL cc own) {i k : Nat} {n : Int} {x v : Int32} {lv' : List (Nat × Value)} (hdg : decode cc pc = .ok (.iinc i n, 3)) (hk : lv[k]? = some (i, .int x)) (hv : x + Int32.ofInt n = v) (hn : i < nL) (hl : (i, Value.int v) :: lv.filter (fun q => !(q.1 == i) && !(q.1 + 1 == i && q.2.category == 2)) = lv') (kk : Sx p l e R s m args below meth c D cl A nL Q (pc + 3) lv' st ws) : Sx p l e R s m args below meth c D cl A nL Q pc lv st ws := fun H locs ls hP hD hS hl9 => lv_iinc B.1 B.2.1 hdg hl9 hk hv hn hl (fun ls' hl' => kk H locs ls' hP hD hS hl')
set_option maxHeartbeats 1000000 in
theorem s_iadd (B : Bs p s m args meth c D cl tys A nL cc own) {x y : Int32} (hdg : decode cc pc = .ok (.iadd, 1)) (k : Sx p l e R s m args below meth c D cl A nL Q (pc + 1) lv (.int (x + y) :: st) ws) : Sx p l e R s m args below meth c D cl A nL Q pc lv (.int y :: .int x :: st) ws := fun H locs ls hP hD hS hl9 => lv_iadd B.1 B.2.1 hdg (k H locs ls hP hD hS hl9)
set_option maxHeartbeats 1000000 in
theorem s_isub (B : Bs p s m args meth c D cl tys A nL cc own) {x y : Int32} (hdg : decode cc pc = .ok (.isub, 1)) (k : Sx p l e R s m args below meth c D cl A nL Q (pc + 1) lv (.int (x - y) :: st) ws) : Sx p l e R s m args below meth c D cl A nL Q pc lv (.int y :: .int x :: st) ws := fun H locs ls hP hD hS hl9 => lv_isub B.1 B.2.1 hdg (k H locs ls hP hD hS hl9)
set_option maxHeartbeats 1000000 in
theorem s_imul (B : Bs p s m args meth c D cl tys A nL cc own) {x y : Int32} (hdg : decode cc pc = .ok (.imul, 1)) (k : Sx p l e R s m args below meth c D cl A nL Q (pc + 1) lv (.int (x * y) :: st) ws) : Sx p l e R s m args below meth c D cl A nL Q pc lv (.int y :: .int x :: st) ws := fun H locs ls hP hD hS hl9 => lv_imul B.1 B.2.1 hdg (k H locs ls hP hD hS hl9)
set_option maxHeartbeats 1000000 in
theorem s_iand (B : Bs p s m args meth c D cl tys A nL cc own) {x y : Int32} (hdg : decode cc pc = .ok (.iand, 1)) (k : Sx p l e R s m args below meth c D cl A nL Q (pc + 1) lv (.int (x &&& y) :: st) ws) : Sx p l e R s m args below meth c D cl A nL Q pc lv (.int y :: .int x :: st) ws := fun H locs ls hP hD hS hl9 => lv_iand B.1 B.2.1 hdg (k H locs ls hP hD hS hl9)
set_option maxHeartbeats 1000000 in
theorem s_ior (B : Bs p s m args meth c D cl tys A nL cc own) {x y : Int32} (hdg : decode cc pc = .ok (.ior, 1)) (k : Sx p l e R s m args below meth c D cl A nL Q (pc + 1) lv (.int (x ||| y) :: st) ws) : Sx p l e R s m args below meth c D cl A nL Q pc lv (.int y :: .int x :: st) ws := fun H locs ls hP hD hS hl9 => lv_ior B.1 B.2.1 hdg (k H locs ls hP hD hS hl9)
set_option maxHeartbeats 1000000 in
theorem s_ixor (B : Bs p s m args meth c D cl tys A nL cc own) {x y : Int32} (hdg : decode cc pc = .ok (.ixor, 1)) (k : Sx p l e R s m args below meth c D cl A nL Q (pc + 1) lv (.int (x ^^^ y) :: st) ws) : Sx p l e R s m args below meth c D cl A nL Q pc lv (.int y :: .int x :: st) ws := fun H locs ls hP hD hS hl9 => lv_ixor B.1 B.2.1 hdg (k H locs ls hP hD hS hl9)
set_option maxHeartbeats 1000000 in
theorem s_idiv (B : Bs p s m args meth c D cl tys A nL cc own) {x y : Int32} (hdg : decode cc pc = .ok (.idiv, 1)) (hne : ¬ y = 0) (k : Sx p l e R s m args below meth c D cl A nL Q (pc + 1) lv (.int (x / y) :: st) ws) : Sx p l e R s m args below meth c D cl A nL Q pc lv (.int y :: .int x :: st) ws := fun H locs ls hP hD hS hl9 => lv_idiv B.1 B.2.1 hdg hne (k H locs ls hP hD hS hl9)
set_option maxHeartbeats 1000000 in
theorem s_irem (B : Bs p s m args meth c D cl tys A nL cc own) {x y : Int32} (hdg : decode cc pc = .ok (.irem, 1)) (hne : ¬ y = 0) (k : Sx p l e R s m args below meth c D cl A nL Q (pc + 1) lv (.int (x - x / y * y) :: st) ws) : Sx p l e R s m args below meth c D cl A nL Q pc lv (.int y :: .int x :: st) ws := fun H locs ls hP hD hS hl9 => lv_irem B.1 B.2.1 hdg hne (k H locs ls hP hD hS hl9)
set_option maxHeartbeats 1000000 in
theorem s_ineg (B : Bs p s m args meth c D cl tys A nL cc own) {x : Int32} (hdg : decode cc pc = .ok (.ineg, 1)) (k : Sx p l e R s m args below meth c D cl A nL Q (pc + 1) lv (.int (-x) :: st) ws) : Sx p l e R s m args below meth c D cl A nL Q pc lv (.int x :: st) ws := fun H locs ls hP hD hS hl9 => lv_ineg B.1 B.2.1 hdg (k H locs ls hP hD hS hl9)
set_option maxHeartbeats 1000000 in
theorem s_ladd (B : Bs p s m args meth c D cl tys A nL cc own) {x y : Int64} (hdg : decode cc pc = .ok (.ladd, 1)) (k : Sx p l e R s m args below meth c D cl A nL Q (pc + 1) lv (.long (x + y) :: st) ws) : Sx p l e R s m args below meth c D cl A nL Q pc lv (.long y :: .long x :: st) ws := fun H locs ls hP hD hS hl9 => lv_ladd B.1 B.2.1 hdg (k H locs ls hP hD hS hl9)
set_option maxHeartbeats 1000000 in
theorem s_lsub (B : Bs p s m args meth c D cl tys A nL cc own) {x y : Int64} (hdg : decode cc pc = .ok (.lsub, 1)) (k : Sx p l e R s m args below meth c D cl A nL Q (pc + 1) lv (.long (x - y) :: st) ws) : Sx p l e R s m args below meth c D cl A nL Q pc lv (.long y :: .long x :: st) ws := fun H locs ls hP hD hS hl9 => lv_lsub B.1 B.2.1 hdg (k H locs ls hP hD hS hl9)
set_option maxHeartbeats 1000000 in
theorem s_lmul (B : Bs p s m args meth c D cl tys A nL cc own) {x y : Int64} (hdg : decode cc pc = .ok (.lmul, 1)) (k : Sx p l e R s m args below meth c D cl A nL Q (pc + 1) lv (.long (x * y) :: st) ws) : Sx p l e R s m args below meth c D cl A nL Q pc lv (.long y :: .long x :: st) ws := fun H locs ls hP hD hS hl9 => lv_lmul B.1 B.2.1 hdg (k H locs ls hP hD hS hl9)
set_option maxHeartbeats 1000000 in
theorem s_land (B : Bs p s m args meth c D cl tys A nL cc own) {x y : Int64} (hdg : decode cc pc = .ok (.land, 1)) (k : Sx p l e R s m args below meth c D cl A nL Q (pc + 1) lv (.long (x &&& y) :: st) ws) : Sx p l e R s m args below meth c D cl A nL Q pc lv (.long y :: .long x :: st) ws := fun H locs ls hP hD hS hl9 => lv_land B.1 B.2.1 hdg (k H locs ls hP hD hS hl9)
set_option maxHeartbeats 1000000 in
theorem s_lor (B : Bs p s m args meth c D cl tys A nL cc own) {x y : Int64} (hdg : decode cc pc = .ok (.lor, 1)) (k : Sx p l e R s m args below meth c D cl A nL Q (pc + 1) lv (.long (x ||| y) :: st) ws) : Sx p l e R s m args below meth c D cl A nL Q pc lv (.long y :: .long x :: st) ws := fun H locs ls hP hD hS hl9 => lv_lor B.1 B.2.1 hdg (k H locs ls hP hD hS hl9)
set_option maxHeartbeats 1000000 in
theorem s_lxor (B : Bs p s m args meth c D cl tys A nL cc own) {x y : Int64} (hdg : decode cc pc = .ok (.lxor, 1)) (k : Sx p l e R s m args below meth c D cl A nL Q (pc + 1) lv (.long (x ^^^ y) :: st) ws) : Sx p l e R s m args below meth c D cl A nL Q pc lv (.long y :: .long x :: st) ws := fun H locs ls hP hD hS hl9 => lv_lxor B.1 B.2.1 hdg (k H locs ls hP hD hS hl9)
set_option maxHeartbeats 1000000 in
theorem s_ishl (B : Bs p s m args meth c D cl tys A nL cc own) {x y : Int32} (hdg : decode cc pc = .ok (.ishl, 1)) (k : Sx p l e R s m args below meth c D cl A nL Q (pc + 1) lv (.int (x <<< (y &&& 31)) :: st) ws) : Sx p l e R s m args below meth c D cl A nL Q pc lv (.int y :: .int x :: st) ws := fun H locs ls hP hD hS hl9 => lv_ishl B.1 B.2.1 hdg (k H locs ls hP hD hS hl9)
set_option maxHeartbeats 1000000 in
theorem s_ishr (B : Bs p s m args meth c D cl tys A nL cc own) {x y : Int32} (hdg : decode cc pc = .ok (.ishr, 1)) (k : Sx p l e R s m args below meth c D cl A nL Q (pc + 1) lv (.int (x >>> (y &&& 31)) :: st) ws) : Sx p l e R s m args below meth c D cl A nL Q pc lv (.int y :: .int x :: st) ws := fun H locs ls hP hD hS hl9 => lv_ishr B.1 B.2.1 hdg (k H locs ls hP hD hS hl9)
set_option maxHeartbeats 1000000 in
theorem s_i2l (B : Bs p s m args meth c D cl tys A nL cc own) {x : Int32} {v : Int64} (hdg : decode cc pc = .ok (.i2l, 1)) (hv : x.toInt64 = v) (k : Sx p l e R s m args below meth c D cl A nL Q (pc + 1) lv (.long v :: st) ws) : Sx p l e R s m args below meth c D cl A nL Q pc lv (.int x :: st) ws := fun H locs ls hP hD hS hl9 => lv_i2l B.1 B.2.1 hdg hv (k H locs ls hP hD hS hl9)
set_option maxHeartbeats 1000000 in
theorem s_l2i (B : Bs p s m args meth c D cl tys A nL cc own) {x : Int64} {v : Int32} (hdg : decode cc pc = .ok (.l2i, 1)) (hv : x.toInt32 = v) (k : Sx p l e R s m args below meth c D cl A nL Q (pc + 1) lv (.int v :: st) ws) : Sx p l e R s m args below meth c D cl A nL Q pc lv (.long x :: st) ws := fun H locs ls hP hD hS hl9 => lv_l2i B.1 B.2.1 hdg hv (k H locs ls hP hD hS hl9)
set_option maxHeartbeats 1000000 in
theorem s_i2b (B : Bs p s m args meth c D cl tys A nL cc own) {x : Int32} {v : Int32} (hdg : decode cc pc = .ok (.i2b, 1)) (hv : x.toInt8.toInt32 = v) (k : Sx p l e R s m args below meth c D cl A nL Q (pc + 1) lv (.int v :: st) ws) : Sx p l e R s m args below meth c D cl A nL Q pc lv (.int x :: st) ws := fun H locs ls hP hD hS hl9 => lv_i2b B.1 B.2.1 hdg hv (k H locs ls hP hD hS hl9)
set_option maxHeartbeats 1000000 in
theorem s_i2s (B : Bs p s m args meth c D cl tys A nL cc own) {x : Int32} {v : Int32} (hdg : decode cc pc = .ok (.i2s, 1)) (hv : x.toInt16.toInt32 = v) (k : Sx p l e R s m args below meth c D cl A nL Q (pc + 1) lv (.int v :: st) ws) : Sx p l e R s m args below meth c D cl A nL Q pc lv (.int x :: st) ws := fun H locs ls hP hD hS hl9 => lv_i2s B.1 B.2.1 hdg hv (k H locs ls hP hD hS hl9)
set_option maxHeartbeats 1000000 in
theorem s_i2c (B : Bs p s m args meth c D cl tys A nL cc own) {x : Int32} {v : Int32} (hdg : decode cc pc = .ok (.i2c, 1)) (hv : (x.toUInt32 % 65536).toInt32 = v) (k : Sx p l e R s m args below meth c D cl A nL Q (pc + 1) lv (.int v :: st) ws) : Sx p l e R s m args below meth c D cl A nL Q pc lv (.int x :: st) ws := fun H locs ls hP hD hS hl9 => lv_i2c B.1 B.2.1 hdg hv (k H locs ls hP hD hS hl9)
set_option maxHeartbeats 1000000 in
theorem s_iushr (B : Bs p s m args meth c D cl tys A nL cc own) {x y v : Int32} (hdg : decode cc pc = .ok (.iushr, 1)) (hv : (x.toUInt32 >>> (y.toUInt32 &&& Int32.toUInt32 31)).toInt32 = v) (k : Sx p l e R s m args below meth c D cl A nL Q (pc + 1) lv (.int v :: st) ws) : Sx p l e R s m args below meth c D cl A nL Q pc lv (.int y :: .int x :: st) ws := fun H locs ls hP hD hS hl9 => lv_iushr B.1 B.2.1 hdg hv (k H locs ls hP hD hS hl9)
set_option maxHeartbeats 1000000 in
theorem s_lushr (B : Bs p s m args meth c D cl tys A nL cc own) {x v : Int64} {y : Int32} (hdg : decode cc pc = .ok (.lushr, 1)) (hv : (x.toUInt64 >>> (y.toInt64.toUInt64 &&& Int64.toUInt64 63)).toInt64 = v) (k : Sx p l e R s m args below meth c D cl A nL Q (pc + 1) lv (.long v :: st) ws) : Sx p l e R s m args below meth c D cl A nL Q pc lv (.int y :: .long x :: st) ws := fun H locs ls hP hD hS hl9 => lv_lushr B.1 B.2.1 hdg hv (k H locs ls hP hD hS hl9)
set_option maxHeartbeats 1000000 in
theorem s_lshl (B : Bs p s m args meth c D cl tys A nL cc own) {x v : Int64} {y : Int32} (hdg : decode cc pc = .ok (.lshl, 1)) (hv : x <<< (y.toInt64 &&& 63) = v) (k : Sx p l e R s m args below meth c D cl A nL Q (pc + 1) lv (.long v :: st) ws) : Sx p l e R s m args below meth c D cl A nL Q pc lv (.int y :: .long x :: st) ws := fun H locs ls hP hD hS hl9 => lv_lshl B.1 B.2.1 hdg hv (k H locs ls hP hD hS hl9)
set_option maxHeartbeats 1000000 in
theorem s_lshr (B : Bs p s m args meth c D cl tys A nL cc own) {x v : Int64} {y : Int32} (hdg : decode cc pc = .ok (.lshr, 1)) (hv : x >>> (y.toInt64 &&& 63) = v) (k : Sx p l e R s m args below meth c D cl A nL Q (pc + 1) lv (.long v :: st) ws) : Sx p l e R s m args below meth c D cl A nL Q pc lv (.int y :: .long x :: st) ws := fun H locs ls hP hD hS hl9 => lv_lshr B.1 B.2.1 hdg hv (k H locs ls hP hD hS hl9)
set_option maxHeartbeats 1000000 in
theorem s_dup (B : Bs p s m args meth c D cl tys A nL cc own) {va : Value} (hdg : decode cc pc = .ok (.dup, 1)) (hva : va.category = 1) (k : Sx p l e R s m args below meth c D cl A nL Q (pc + 1) lv (va :: va :: st) ws) : Sx p l e R s m args below meth c D cl A nL Q pc lv (va :: st) ws := fun H locs ls hP hD hS hl9 => lv_dup B.1 B.2.1 hdg hva (k H locs ls hP hD hS hl9)
set_option maxHeartbeats 1000000 in
theorem s_pop (B : Bs p s m args meth c D cl tys A nL cc own) {va : Value} (hdg : decode cc pc = .ok (.pop, 1)) (hva : va.category = 1) (k : Sx p l e R s m args below meth c D cl A nL Q (pc + 1) lv (st) ws) : Sx p l e R s m args below meth c D cl A nL Q pc lv (va :: st) ws := fun H locs ls hP hD hS hl9 => lv_pop B.1 B.2.1 hdg hva (k H locs ls hP hD hS hl9)
set_option maxHeartbeats 1000000 in
theorem s_dup2_11 (B : Bs p s m args meth c D cl tys A nL cc own) {va vb : Value} (hdg : decode cc pc = .ok (.dup2, 1)) (hva : va.category = 1) (hvb : vb.category = 1) (k : Sx p l e R s m args below meth c D cl A nL Q (pc + 1) lv (va :: vb :: va :: vb :: st) ws) : Sx p l e R s m args below meth c D cl A nL Q pc lv (va :: vb :: st) ws := fun H locs ls hP hD hS hl9 => lv_dup2_11 B.1 B.2.1 hdg hva hvb (k H locs ls hP hD hS hl9)
set_option maxHeartbeats 1000000 in
theorem s_dup2_2 (B : Bs p s m args meth c D cl tys A nL cc own) {va : Value} (hdg : decode cc pc = .ok (.dup2, 1)) (hva : va.category = 2) (k : Sx p l e R s m args below meth c D cl A nL Q (pc + 1) lv (va :: va :: st) ws) : Sx p l e R s m args below meth c D cl A nL Q pc lv (va :: st) ws := fun H locs ls hP hD hS hl9 => lv_dup2_2 B.1 B.2.1 hdg hva (k H locs ls hP hD hS hl9)
set_option maxHeartbeats 1000000 in
theorem s_pop2_2 (B : Bs p s m args meth c D cl tys A nL cc own) {va : Value} (hdg : decode cc pc = .ok (.pop2, 1)) (hva : va.category = 2) (k : Sx p l e R s m args below meth c D cl A nL Q (pc + 1) lv (st) ws) : Sx p l e R s m args below meth c D cl A nL Q pc lv (va :: st) ws := fun H locs ls hP hD hS hl9 => lv_pop2_2 B.1 B.2.1 hdg hva (k H locs ls hP hD hS hl9)
set_option maxHeartbeats 1000000 in
theorem s_if_eq (B : Bs p s m args meth c D cl tys A nL cc own) {x : Int32} {off : Int} {tgt : Nat} (hdg : decode cc pc = .ok (.ifCond .eq off, 3)) (ht : (pc : Int) + off = (tgt : Int)) (kt : x = 0 → Sx p l e R s m args below meth c D cl A nL Q tgt lv st ws) (kf : ¬ x = 0 → Sx p l e R s m args below meth c D cl A nL Q (pc + 3) lv st ws) : Sx p l e R s m args below meth c D cl A nL Q pc lv (.int x :: st) ws := fun H locs ls hP hD hS hl9 => lv_if_eq B.1 B.2.1 hdg ht (fun h => kt h H locs ls hP hD hS hl9) (fun h => kf h H locs ls hP hD hS hl9)
set_option maxHeartbeats 1000000 in
theorem s_if_ne (B : Bs p s m args meth c D cl tys A nL cc own) {x : Int32} {off : Int} {tgt : Nat} (hdg : decode cc pc = .ok (.ifCond .ne off, 3)) (ht : (pc : Int) + off = (tgt : Int)) (kt : ¬ x = 0 → Sx p l e R s m args below meth c D cl A nL Q tgt lv st ws) (kf : x = 0 → Sx p l e R s m args below meth c D cl A nL Q (pc + 3) lv st ws) : Sx p l e R s m args below meth c D cl A nL Q pc lv (.int x :: st) ws := fun H locs ls hP hD hS hl9 => lv_if_ne B.1 B.2.1 hdg ht (fun h => kt h H locs ls hP hD hS hl9) (fun h => kf h H locs ls hP hD hS hl9)
set_option maxHeartbeats 1000000 in
theorem s_if_lt (B : Bs p s m args meth c D cl tys A nL cc own) {x : Int32} {off : Int} {tgt : Nat} (hdg : decode cc pc = .ok (.ifCond .lt off, 3)) (ht : (pc : Int) + off = (tgt : Int)) (kt : x < 0 → Sx p l e R s m args below meth c D cl A nL Q tgt lv st ws) (kf : ¬ x < 0 → Sx p l e R s m args below meth c D cl A nL Q (pc + 3) lv st ws) : Sx p l e R s m args below meth c D cl A nL Q pc lv (.int x :: st) ws := fun H locs ls hP hD hS hl9 => lv_if_lt B.1 B.2.1 hdg ht (fun h => kt h H locs ls hP hD hS hl9) (fun h => kf h H locs ls hP hD hS hl9)
set_option maxHeartbeats 1000000 in
theorem s_if_ge (B : Bs p s m args meth c D cl tys A nL cc own) {x : Int32} {off : Int} {tgt : Nat} (hdg : decode cc pc = .ok (.ifCond .ge off, 3)) (ht : (pc : Int) + off = (tgt : Int)) (kt : 0 ≤ x → Sx p l e R s m args below meth c D cl A nL Q tgt lv st ws) (kf : ¬ 0 ≤ x → Sx p l e R s m args below meth c D cl A nL Q (pc + 3) lv st ws) : Sx p l e R s m args below meth c D cl A nL Q pc lv (.int x :: st) ws := fun H locs ls hP hD hS hl9 => lv_if_ge B.1 B.2.1 hdg ht (fun h => kt h H locs ls hP hD hS hl9) (fun h => kf h H locs ls hP hD hS hl9)
set_option maxHeartbeats 1000000 in
theorem s_if_gt (B : Bs p s m args meth c D cl tys A nL cc own) {x : Int32} {off : Int} {tgt : Nat} (hdg : decode cc pc = .ok (.ifCond .gt off, 3)) (ht : (pc : Int) + off = (tgt : Int)) (kt : 0 < x → Sx p l e R s m args below meth c D cl A nL Q tgt lv st ws) (kf : ¬ 0 < x → Sx p l e R s m args below meth c D cl A nL Q (pc + 3) lv st ws) : Sx p l e R s m args below meth c D cl A nL Q pc lv (.int x :: st) ws := fun H locs ls hP hD hS hl9 => lv_if_gt B.1 B.2.1 hdg ht (fun h => kt h H locs ls hP hD hS hl9) (fun h => kf h H locs ls hP hD hS hl9)
set_option maxHeartbeats 1000000 in
theorem s_if_le (B : Bs p s m args meth c D cl tys A nL cc own) {x : Int32} {off : Int} {tgt : Nat} (hdg : decode cc pc = .ok (.ifCond .le off, 3)) (ht : (pc : Int) + off = (tgt : Int)) (kt : x ≤ 0 → Sx p l e R s m args below meth c D cl A nL Q tgt lv st ws) (kf : ¬ x ≤ 0 → Sx p l e R s m args below meth c D cl A nL Q (pc + 3) lv st ws) : Sx p l e R s m args below meth c D cl A nL Q pc lv (.int x :: st) ws := fun H locs ls hP hD hS hl9 => lv_if_le B.1 B.2.1 hdg ht (fun h => kt h H locs ls hP hD hS hl9) (fun h => kf h H locs ls hP hD hS hl9)
set_option maxHeartbeats 1000000 in
theorem s_icmp_eq (B : Bs p s m args meth c D cl tys A nL cc own) {x y : Int32} {off : Int} {tgt : Nat} (hdg : decode cc pc = .ok (.if_icmp .eq off, 3)) (ht : (pc : Int) + off = (tgt : Int)) (kt : x = y → Sx p l e R s m args below meth c D cl A nL Q tgt lv st ws) (kf : ¬ x = y → Sx p l e R s m args below meth c D cl A nL Q (pc + 3) lv st ws) : Sx p l e R s m args below meth c D cl A nL Q pc lv (.int y :: .int x :: st) ws := fun H locs ls hP hD hS hl9 => lv_icmp_eq B.1 B.2.1 hdg ht (fun h => kt h H locs ls hP hD hS hl9) (fun h => kf h H locs ls hP hD hS hl9)
set_option maxHeartbeats 1000000 in
theorem s_icmp_ne (B : Bs p s m args meth c D cl tys A nL cc own) {x y : Int32} {off : Int} {tgt : Nat} (hdg : decode cc pc = .ok (.if_icmp .ne off, 3)) (ht : (pc : Int) + off = (tgt : Int)) (kt : ¬ x = y → Sx p l e R s m args below meth c D cl A nL Q tgt lv st ws) (kf : x = y → Sx p l e R s m args below meth c D cl A nL Q (pc + 3) lv st ws) : Sx p l e R s m args below meth c D cl A nL Q pc lv (.int y :: .int x :: st) ws := fun H locs ls hP hD hS hl9 => lv_icmp_ne B.1 B.2.1 hdg ht (fun h => kt h H locs ls hP hD hS hl9) (fun h => kf h H locs ls hP hD hS hl9)
set_option maxHeartbeats 1000000 in
theorem s_icmp_lt (B : Bs p s m args meth c D cl tys A nL cc own) {x y : Int32} {off : Int} {tgt : Nat} (hdg : decode cc pc = .ok (.if_icmp .lt off, 3)) (ht : (pc : Int) + off = (tgt : Int)) (kt : x < y → Sx p l e R s m args below meth c D cl A nL Q tgt lv st ws) (kf : ¬ x < y → Sx p l e R s m args below meth c D cl A nL Q (pc + 3) lv st ws) : Sx p l e R s m args below meth c D cl A nL Q pc lv (.int y :: .int x :: st) ws := fun H locs ls hP hD hS hl9 => lv_icmp_lt B.1 B.2.1 hdg ht (fun h => kt h H locs ls hP hD hS hl9) (fun h => kf h H locs ls hP hD hS hl9)
set_option maxHeartbeats 1000000 in
theorem s_icmp_ge (B : Bs p s m args meth c D cl tys A nL cc own) {x y : Int32} {off : Int} {tgt : Nat} (hdg : decode cc pc = .ok (.if_icmp .ge off, 3)) (ht : (pc : Int) + off = (tgt : Int)) (kt : y ≤ x → Sx p l e R s m args below meth c D cl A nL Q tgt lv st ws) (kf : ¬ y ≤ x → Sx p l e R s m args below meth c D cl A nL Q (pc + 3) lv st ws) : Sx p l e R s m args below meth c D cl A nL Q pc lv (.int y :: .int x :: st) ws := fun H locs ls hP hD hS hl9 => lv_icmp_ge B.1 B.2.1 hdg ht (fun h => kt h H locs ls hP hD hS hl9) (fun h => kf h H locs ls hP hD hS hl9)
set_option maxHeartbeats 1000000 in
theorem s_icmp_gt (B : Bs p s m args meth c D cl tys A nL cc own) {x y : Int32} {off : Int} {tgt : Nat} (hdg : decode cc pc = .ok (.if_icmp .gt off, 3)) (ht : (pc : Int) + off = (tgt : Int)) (kt : y < x → Sx p l e R s m args below meth c D cl A nL Q tgt lv st ws) (kf : ¬ y < x → Sx p l e R s m args below meth c D cl A nL Q (pc + 3) lv st ws) : Sx p l e R s m args below meth c D cl A nL Q pc lv (.int y :: .int x :: st) ws := fun H locs ls hP hD hS hl9 => lv_icmp_gt B.1 B.2.1 hdg ht (fun h => kt h H locs ls hP hD hS hl9) (fun h => kf h H locs ls hP hD hS hl9)
set_option maxHeartbeats 1000000 in
theorem s_icmp_le (B : Bs p s m args meth c D cl tys A nL cc own) {x y : Int32} {off : Int} {tgt : Nat} (hdg : decode cc pc = .ok (.if_icmp .le off, 3)) (ht : (pc : Int) + off = (tgt : Int)) (kt : x ≤ y → Sx p l e R s m args below meth c D cl A nL Q tgt lv st ws) (kf : ¬ x ≤ y → Sx p l e R s m args below meth c D cl A nL Q (pc + 3) lv st ws) : Sx p l e R s m args below meth c D cl A nL Q pc lv (.int y :: .int x :: st) ws := fun H locs ls hP hD hS hl9 => lv_icmp_le B.1 B.2.1 hdg ht (fun h => kt h H locs ls hP hD hS hl9) (fun h => kf h H locs ls hP hD hS hl9)
set_option maxHeartbeats 1000000 in
theorem s_goto (B : Bs p s m args meth c D cl tys A nL cc own) {off : Int} {tgt : Nat} (hdg : decode cc pc = .ok (.goto off, 3)) (ht : (pc : Int) + off = (tgt : Int)) (k : Sx p l e R s m args below meth c D cl A nL Q tgt lv st ws) : Sx p l e R s m args below meth c D cl A nL Q pc lv st ws := fun H locs ls hP hD hS hl9 => lv_goto B.1 B.2.1 hdg ht (k H locs ls hP hD hS hl9)
set_option maxHeartbeats 1000000 in
theorem s_lookup (B : Bs p s m args meth c D cl tys A nL cc own) {dflt : Int} {ps : Array (Int × Int)} {len : Nat} {x : Int32} {off : Int} {tgt : Nat} (hdg : decode cc pc = .ok (.lookupswitch dflt ps, len)) (hp : (ps.toList.zip (ps.toList.drop 1)).all (fun (a, next) => a.1 < next.1) = true) (ho : Op.lookupswitch.offset ps.toList dflt x.toInt = off) (ht : (pc : Int) + off = (tgt : Int)) (k : Sx p l e R s m args below meth c D cl A nL Q tgt lv st ws) : Sx p l e R s m args below meth c D cl A nL Q pc lv (.int x :: st) ws := fun H locs ls hP hD hS hl9 => lv_lookup B.1 B.2.1 hdg hp ho ht (k H locs ls hP hD hS hl9)
set_option maxHeartbeats 1000000 in
theorem s_tableIn (B : Bs p s m args meth c D cl tys A nL cc own) {dflt lo hi : Int} {offs : Array Int} {len : Nat} {x : Int32} {off : Int} {tgt : Nat} (hdg : decode cc pc = .ok (.tableswitch dflt lo hi offs, len)) (h1 : ¬ x.toInt < lo) (h2 : ¬ hi < x.toInt) (ho : offs[(x.toInt - lo).toNat]? = some off) (ht : (pc : Int) + off = (tgt : Int)) (k : Sx p l e R s m args below meth c D cl A nL Q tgt lv st ws) : Sx p l e R s m args below meth c D cl A nL Q pc lv (.int x :: st) ws := fun H locs ls hP hD hS hl9 => lv_tableIn B.1 B.2.1 hdg h1 h2 ho ht (k H locs ls hP hD hS hl9)
set_option maxHeartbeats 1000000 in
theorem s_tableOut (B : Bs p s m args meth c D cl tys A nL cc own) {dflt lo hi : Int} {offs : Array Int} {len : Nat} {x : Int32} {tgt : Nat} (hdg : decode cc pc = .ok (.tableswitch dflt lo hi offs, len)) (h : x.toInt < lo ∨ hi < x.toInt) (ht : (pc : Int) + dflt = (tgt : Int)) (k : Sx p l e R s m args below meth c D cl A nL Q tgt lv st ws) : Sx p l e R s m args below meth c D cl A nL Q pc lv (.int x :: st) ws := fun H locs ls hP hD hS hl9 => lv_tableOut B.1 B.2.1 hdg h ht (k H locs ls hP hD hS hl9)
theorem s_ws {ws' : va_W} (h : ws = ws') (k : Sx p l e R s m args below meth c D cl A nL Q pc lv st ws') : Sx p l e R s m args below meth c D cl A nL Q pc lv st ws := h ▸ k
theorem s_pc {pc' : Nat} (h : pc = pc') (k : Sx p l e R s m args below meth c D cl A nL Q pc' lv st ws) : Sx p l e R s m args below meth c D cl A nL Q pc lv st ws := h ▸ k
theorem s_lv {lv' : List (Nat × Value)} (is : List Nat) (h : lv_pick lv is = lv') (k : Sx p l e R s m args below meth c D cl A nL Q pc lv' st ws) : Sx p l e R s m args below meth c D cl A nL Q pc lv st ws := fun H locs ls hP hD hS hl => k H locs ls hP hD hS (lv_sub hl is h)
theorem s_get (B : Bs p s m args meth c D cl tys A nL cc own) {C : String} {T : u_T} {N ci index a : Nat} (hin : ∀ w ∈ u_ws C T N, w ∈ lw_gd) (q0 : Nat) {fs : List Value} (he : ws[q0]? = some (a, .inr (ci, fs))) (hc : cl[ci]? = some (C, T, N)) (k : Nat) (hk : k < N) (hlink : Cond.fieldLink own index C (T k).2.1 (T k).2.2.1 ∈ lw_gd) (hr : (T k).1 = C) {v : Value} (hv : fs[k]? = some v) (hdg : decode cc pc = .ok (.getfield index, 3))
    (kk : Sx p l e R s m args below meth c D cl A nL Q (pc + 3) lv (v :: st) ws) : Sx p l e R s m args below meth c D cl A nL Q pc lv (.ref a :: st) ws :=
  fun H locs ls hP hD hS hl => va_get B.1 B.2.1 B.2.2.2.2.1 hin B.2.2.2.1 B.2.2.2.2.2.1 hP q0 he hc k hk (B.2.2.2.2.1 _ hlink) (fun x h => by rw [← hr]; exact h) hv hdg (kk H locs ls hP hD hS hl)
theorem s_put (B : Bs p s m args meth c D cl tys A nL cc own) {C : String} {T : u_T} {N ci index a : Nat} (hin : ∀ w ∈ u_ws C T N, w ∈ lw_gd) {ty0 : Nat → FieldType} (hty : ∀ k, k < N → parseFieldDescriptor (T k).2.2.1 = some (ty0 k)) (hnm : ∀ a, a < N → ∀ b, b < N → a ≠ b → (T a).2.1 ≠ (T b).2.1) (q0 : Nat) {fs : List Value} (he : ws[q0]? = some (a, .inr (ci, fs))) (hc : cl[ci]? = some (C, T, N)) (k : Nat) (hk : k < N) (hlink : Cond.fieldLink own index C (T k).2.1 (T k).2.2.1 ∈ lw_gd) (hr : (T k).1 = C) (hfin : (T k).2.2.2 = false) {v : Value} (hn : narrow (ty0 k) v = v) (hfit : fits (ty0 k) v = true) (hl0 : k < fs.length) {ws' : va_W} (hw : ws.set q0 (a, .inr (ci, fs.set k v)) = ws') (hdg : decode cc pc = .ok (.putfield index, 3))
    (kk : Sx p l e R s m args below meth c D cl A nL Q (pc + 3) lv st ws') : Sx p l e R s m args below meth c D cl A nL Q pc lv (v :: .ref a :: st) ws :=
  fun H locs ls hP hD hS hl => va_put B.1 B.2.1 B.2.2.2.2.1 hin ty0 hty hnm B.2.2.2.1 B.2.2.2.2.2.1 hP hD hS q0 he hc k hk (B.2.2.2.2.1 _ hlink) (fun x h => by rw [← hr]; exact h) hfin (hty k hk) hn hfit hl0 hdg (fun H1 locs1 h1 h2 h3 => by subst hw; exact kk H1 locs1 ls h1 h2 h3 hl)
theorem s_iald (B : Bs p s m args meth c D cl tys A nL cc own) (q0 t0 : Nat) {a : Nat} {cA : ClassId} {n : Nat} {f : Nat → Int32} (ha : ws[q0]? = some (a, .inl (cA, n, .inl f))) (ht : tys[t0]? = some (cA, .int)) {i : Int32} (hdg : decode cc pc = .ok (.iaload, 1)) (hin : vp_in i n)
    (kk : Sx p l e R s m args below meth c D cl A nL Q (pc + 1) lv (.int (f i.toNatClampNeg) :: st) ws) : Sx p l e R s m args below meth c D cl A nL Q pc lv (.int i :: .ref a :: st) ws :=
  fun H locs ls hP hD hS hl => va_iald B.1 B.2.1 B.2.2.2.2.2.1 hP q0 t0 ha ht hin hdg (kk H locs ls hP hD hS hl)
theorem s_bald (B : Bs p s m args meth c D cl tys A nL cc own) (q0 t0 : Nat) {a : Nat} {cA : ClassId} {n : Nat} {f : Nat → Int32} (ha : ws[q0]? = some (a, .inl (cA, n, .inl f))) (ht : tys[t0]? = some (cA, .byte)) {i : Int32} (hdg : decode cc pc = .ok (.baload, 1)) (hin : vp_in i n)
    (kk : Sx p l e R s m args below meth c D cl A nL Q (pc + 1) lv (.int (f i.toNatClampNeg) :: st) ws) : Sx p l e R s m args below meth c D cl A nL Q pc lv (.int i :: .ref a :: st) ws :=
  fun H locs ls hP hD hS hl => va_bald B.1 B.2.1 B.2.2.2.2.2.1 hP q0 t0 ha ht hin hdg (kk H locs ls hP hD hS hl)
theorem s_lald (B : Bs p s m args meth c D cl tys A nL cc own) (q0 t0 : Nat) {a : Nat} {cA : ClassId} {n : Nat} {f : Nat → Int64} (ha : ws[q0]? = some (a, .inl (cA, n, .inr (.inl f)))) (ht : tys[t0]? = some (cA, .long)) {i : Int32} (hdg : decode cc pc = .ok (.laload, 1)) (hin : vp_in i n)
    (kk : Sx p l e R s m args below meth c D cl A nL Q (pc + 1) lv (.long (f i.toNatClampNeg) :: st) ws) : Sx p l e R s m args below meth c D cl A nL Q pc lv (.int i :: .ref a :: st) ws :=
  fun H locs ls hP hD hS hl => va_lald B.1 B.2.1 B.2.2.2.2.2.1 hP q0 t0 ha ht hin hdg (kk H locs ls hP hD hS hl)
theorem s_aldq (B : Bs p s m args meth c D cl tys A nL cc own) (q0 t0 : Nat) {a : Nat} {cA : ClassId} {C : String} {n : Nat} {f : Nat → Option Nat} (ha : ws[q0]? = some (a, .inl (cA, n, .inr (.inr (.inr (.inr f)))))) (ht : tys[t0]? = some (cA, .object C)) {i : Int32} (hdg : decode cc pc = .ok (.aaload, 1)) (hin : vp_in i n) {v : Value} (hv : va_rf (f i.toNatClampNeg) = v)
    (kk : Sx p l e R s m args below meth c D cl A nL Q (pc + 1) lv (v :: st) ws) : Sx p l e R s m args below meth c D cl A nL Q pc lv (.int i :: .ref a :: st) ws :=
  fun H locs ls hP hD hS hl => va_aldq B.1 B.2.1 B.2.2.2.2.2.1 hP q0 t0 ha ht hin hdg (by rw [hv]; exact kk H locs ls hP hD hS hl)
theorem s_iast (B : Bs p s m args meth c D cl tys A nL cc own) (q0 t0 : Nat) {a : Nat} {cA : ClassId} {n : Nat} {f : Nat → Int32} (ha : ws[q0]? = some (a, .inl (cA, n, .inl f))) (ht : tys[t0]? = some (cA, .int)) {i x : Int32} {ws' : va_W} (hw : ws.set q0 (a, .inl (cA, n, .inl (upd f i.toNatClampNeg x))) = ws') (hdg : decode cc pc = .ok (.iastore, 1)) (hin : vp_in i n)
    (kk : Sx p l e R s m args below meth c D cl A nL Q (pc + 1) lv st ws') : Sx p l e R s m args below meth c D cl A nL Q pc lv (.int x :: .int i :: .ref a :: st) ws :=
  fun H locs ls hP hD hS hl => va_iast B.1 B.2.1 B.2.2.2.2.2.1 hP hD hS q0 t0 ha ht hin hdg (fun H1 locs1 h1 h2 h3 => by subst hw; exact kk H1 locs1 ls h1 h2 h3 hl)
theorem s_bast (B : Bs p s m args meth c D cl tys A nL cc own) (q0 t0 : Nat) {a : Nat} {cA : ClassId} {n : Nat} {f : Nat → Int32} (ha : ws[q0]? = some (a, .inl (cA, n, .inl f))) (ht : tys[t0]? = some (cA, .byte)) {i x : Int32} {ws' : va_W} (hw : ws.set q0 (a, .inl (cA, n, .inl (upd f i.toNatClampNeg (vp_nar .byte x)))) = ws') (hdg : decode cc pc = .ok (.bastore, 1)) (hin : vp_in i n)
    (kk : Sx p l e R s m args below meth c D cl A nL Q (pc + 1) lv st ws') : Sx p l e R s m args below meth c D cl A nL Q pc lv (.int x :: .int i :: .ref a :: st) ws :=
  fun H locs ls hP hD hS hl => va_bast B.1 B.2.1 B.2.2.2.2.2.1 hP hD hS q0 t0 ha ht hin hdg (fun H1 locs1 h1 h2 h3 => by subst hw; exact kk H1 locs1 ls h1 h2 h3 hl)
theorem s_last (B : Bs p s m args meth c D cl tys A nL cc own) (q0 t0 : Nat) {a : Nat} {cA : ClassId} {n : Nat} {f : Nat → Int64} (ha : ws[q0]? = some (a, .inl (cA, n, .inr (.inl f)))) (ht : tys[t0]? = some (cA, .long)) {i : Int32} {x : Int64} {ws' : va_W} (hw : ws.set q0 (a, .inl (cA, n, .inr (.inl (vp_updL f i.toNatClampNeg x)))) = ws') (hdg : decode cc pc = .ok (.lastore, 1)) (hin : vp_in i n)
    (kk : Sx p l e R s m args below meth c D cl A nL Q (pc + 1) lv st ws') : Sx p l e R s m args below meth c D cl A nL Q pc lv (.long x :: .int i :: .ref a :: st) ws :=
  fun H locs ls hP hD hS hl => va_last B.1 B.2.1 B.2.2.2.2.2.1 hP hD hS q0 t0 ha ht hin hdg (fun H1 locs1 h1 h2 h3 => by subst hw; exact kk H1 locs1 ls h1 h2 h3 hl)
theorem s_gets (B : Bs p s m args meth c D cl tys A nL cc own) {C n : String} {N index : Nat} {f : Nat → Int32} (hs : sc_1 C n N f A s s.heap) (hlink : Cond.fieldLink own index C n "[I" ∈ lw_gd) (hdg : decode cc pc = .ok (.getstatic index, 3))
    (kk : ∀ t : Nat, va_T .int t N (fun j => .int (f j)) A s s.heap → Sx p l e R s m args below meth c D cl A nL Q (pc + 3) lv (.ref t :: st) ws) : Sx p l e R s m args below meth c D cl A nL Q pc lv st ws := by
  obtain ⟨t, hZ, hT⟩ := hs
  exact fun H locs ls hP hD hS hl => va_gets B.1 B.2.1 hZ hS B.2.2.2.1 (B.2.2.2.2.1 _ hlink) (fun _ h => h) hdg (kk t hT H locs ls hP hD hS hl)
theorem s_getsN (B : Bs p s m args meth c D cl tys A nL cc own) {C n host : String} {N index : Nat} {f : Nat → Int32} (hs : sc_1 C n N f A s s.heap) {X : Prop} (hnw : nw s ∧ X) (hlink : Cond.fieldLinkNest own index C n "[I" host ∈ nwl) (hdg : decode cc pc = .ok (.getstatic index, 3))
    (kk : ∀ t : Nat, va_T .int t N (fun j => .int (f j)) A s s.heap → Sx p l e R s m args below meth c D cl A nL Q (pc + 3) lv (.ref t :: st) ws) : Sx p l e R s m args below meth c D cl A nL Q pc lv st ws := by
  obtain ⟨t, hZ, hT⟩ := hs
  exact fun H locs ls hP hD hS hl => va_getsN B.1 B.2.1 hZ hS B.2.2.2.1 (hnw.1.use hlink _) (fun _ h => h) hdg (kk t hT H locs ls hP hD hS hl)
theorem s_ti (B : Bs p s m args meth c D cl tys A nL cc own) {t N : Nat} {f : Nat → Int32} (hT : va_T .int t N (fun j => .int (f j)) A s s.heap) {i : Int32} (hdg : decode cc pc = .ok (.iaload, 1)) (hin : vp_in i N)
    (kk : Sx p l e R s m args below meth c D cl A nL Q (pc + 1) lv (.int (f i.toNatClampNeg) :: st) ws) : Sx p l e R s m args below meth c D cl A nL Q pc lv (.int i :: .ref t :: st) ws :=
  fun H locs ls hP hD hS hl => va_ti B.1 B.2.1 hT hS hin rfl hdg (kk H locs ls hP hD hS hl)
theorem s_tlen (B : Bs p s m args meth c D cl tys A nL cc own) {t N : Nat} {f : Nat → Value} (hT : va_T .int t N f A s s.heap) (hdg : decode cc pc = .ok (.arraylength, 1))
    (kk : Sx p l e R s m args below meth c D cl A nL Q (pc + 1) lv (.int (Int32.ofNat N) :: st) ws) : Sx p l e R s m args below meth c D cl A nL Q pc lv (.ref t :: st) ws :=
  fun H locs ls hP hD hS hl => va_tlen B.1 B.2.1 hT hS rfl hdg (kk H locs ls hP hD hS hl)
theorem s_lcmp (B : Bs p s m args meth c D cl tys A nL cc own) {x y : Int64} (hdg : decode cc pc = .ok (.lcmp, 1)) (k : Sx p l e R s m args below meth c D cl A nL Q (pc + 1) lv (.int (lg_cmp x y) :: st) ws) : Sx p l e R s m args below meth c D cl A nL Q pc lv (.long y :: .long x :: st) ws :=
  fun H locs ls hP hD hS hl => W.lcmp B.1 B.2.1 hdg (k H locs ls hP hD hS hl)
/-- the ends -/
theorem s_iret (B : Bs p s m args meth c D cl tys A nL cc own) {post : Int32 → va_W → Prop} {a0 : List Nat} (hQ : MQ below (va_Qi post (BW D cl a0) A) args s 0 0 A = Q) (hr : meth.sig.returnType = some .int) {r : Int32} (hdg : decode cc pc = .ok (.ireturn, 1)) (ha : ws.map Prod.fst = a0) (hp : post r ws) : Sx p l e R s m args below meth c D cl A nL Q pc lv [.int r] ws := by
  subst hQ
  exact fun H locs ls hP hD hS hl => W.iret B.1 B.2.1 hr (fun t ht hW => ⟨⟨r, ws, rfl, hp, by rw [ht]; exact hP, ha⟩, hS.F ht⟩) hS.2.2 hdg (hlocks := B.2.2.2.2.2.2.1)
theorem s_zret (B : Bs p s m args meth c D cl tys A nL cc own) {post : Int32 → va_W → Prop} {a0 : List Nat} (hQ : MQ below (va_Qi post (BW D cl a0) A) args s 0 0 A = Q) (hr : meth.sig.returnType = some .boolean) {r : Int32} (hdg : decode cc pc = .ok (.ireturn, 1)) (ha : ws.map Prod.fst = a0) (h01 : narrow .boolean (.int r) = .int r) (hp : post r ws) : Sx p l e R s m args below meth c D cl A nL Q pc lv [.int r] ws := by
  subst hQ
  exact fun H locs ls hP hD hS hl => W.zret B.1 B.2.1 hr h01 (fun t ht hW => ⟨⟨r, ws, rfl, hp, by rw [ht]; exact hP, ha⟩, hS.F ht⟩) hS.2.2 hdg (hlocks := B.2.2.2.2.2.2.1)
theorem s_lret (B : Bs p s m args meth c D cl tys A nL cc own) {post : Int64 → va_W → Prop} {a0 : List Nat} (hQ : MQ below (va_Ql post (BW D cl a0) A) args s 0 0 A = Q) (hr : meth.sig.returnType = some .long) {r : Int64} (hdg : decode cc pc = .ok (.lreturn, 1)) (ha : ws.map Prod.fst = a0) (hp : post r ws) : Sx p l e R s m args below meth c D cl A nL Q pc lv [.long r] ws := by
  subst hQ
  exact fun H locs ls hP hD hS hl => W.lret B.1 B.2.1 hr (fun t ht hW => ⟨⟨r, ws, rfl, hp, by rw [ht]; exact hP, ha⟩, hS.F ht⟩) hS.2.2 hdg (hlocks := B.2.2.2.2.2.2.1)
theorem s_vret (B : Bs p s m args meth c D cl tys A nL cc own) {post : va_W → Prop} {a0 : List Nat} (hQ : MQ below (va_Qv post (BW D cl a0) A) args s 0 0 A = Q) (hr : meth.sig.returnType = none) (hdg : decode cc pc = .ok (.return_, 1)) (ha : ws.map Prod.fst = a0) (hp : post ws) : Sx p l e R s m args below meth c D cl A nL Q pc lv [] ws := by
  subst hQ
  exact fun H locs ls hP hD hS hl => W.vret B.1 B.2.1 hr (fun t ht hW => ⟨⟨ws, rfl, hp, by rw [ht]; exact hP, ha⟩, hS.F ht⟩) hS.2.2 hdg (hlocks := B.2.2.2.2.2.2.1)
end SXR
/-- a contract out of the walk from pc 0 -/
theorem ci_in {l : Launch} {y : MethodName} {cc : ByteArray} {nL : Nat} {rt : FieldType} {rm : Room} {D : va_G} {cl : List vw_C} {tys : List (ClassId × FieldType)} {av : List Value} {cells : va_W} {post : Int32 → va_W → Prop} (hy : plainName y.cls = true) (hlen : (lg_sl av).length ≤ nL) {a0 : List Nat} (ha0 : cells.map Prod.fst = a0)
    (body : ∀ (p : Program) (e : Env) (s : State) (m : MethodId) (args : Array Value) (below : List Frame) (meth : Method) (c : Code) (A : Nat → Prop) (Q : State → Prop), MQ below (va_Qi post (BW D cl a0) A) args s 0 0 A = Q → Bs p s m args meth c D cl tys A nL cc y.cls → meth.sig.returnType = some rt → sc D A s s.heap → Sx p l e rm s m args below meth c D cl A nL Q 0 (lv_args 0 av) [] cells) : Ci l y (WW y cc nL (some rt)) rm D cl tys av cells post := by
  subst ha0
  intro sz
  refine Met.ofW (cc := cc) (maxL := nL) (ret := some rt) hy rfl ?_
  intro p e s m args below meth c s₁ B hml hv
  obtain ⟨rfl, hsz, hP, hK, hD0, hsc⟩ := hv
  subst hsz
  have hts := atoms_spec (ws := WW y cc nL (some rt)) B.pre
  have hown := findClass_of_methodNamed B.named
  have hD := hD0.self (sz := s.heap.size)
  have hl := lv_entry av (n := nL) hlen
  rw [lg_entry_eq]
  exact body p e s m _ below meth c _ _ rfl ⟨B.exec, B.bytes, hml, hown, fun w hw => hts w (List.mem_cons_of_mem _ hw), hK, B.notSynchronized, fun q h => Or.inr h⟩ B.returns hsc s.heap [] _ hP hD va_S.rf hl
theorem cl_in {l : Launch} {y : MethodName} {cc : ByteArray} {nL : Nat} {rm : Room} {D : va_G} {cl : List vw_C} {tys : List (ClassId × FieldType)} {av : List Value} {cells : va_W} {post : Int64 → va_W → Prop} (hy : plainName y.cls = true) (hlen : (lg_sl av).length ≤ nL) {a0 : List Nat} (ha0 : cells.map Prod.fst = a0)
    (body : ∀ (p : Program) (e : Env) (s : State) (m : MethodId) (args : Array Value) (below : List Frame) (meth : Method) (c : Code) (A : Nat → Prop) (Q : State → Prop), MQ below (va_Ql post (BW D cl a0) A) args s 0 0 A = Q → Bs p s m args meth c D cl tys A nL cc y.cls → meth.sig.returnType = some .long → sc D A s s.heap → Sx p l e rm s m args below meth c D cl A nL Q 0 (lv_args 0 av) [] cells) : Cl l y (WW y cc nL (some .long)) rm D cl tys av cells post := by
  subst ha0
  intro sz
  refine Met.ofW (cc := cc) (maxL := nL) (ret := some .long) hy rfl ?_
  intro p e s m args below meth c s₁ B hml hv
  obtain ⟨rfl, hsz, hP, hK, hD0, hsc⟩ := hv
  subst hsz
  have hts := atoms_spec (ws := WW y cc nL (some .long)) B.pre
  have hown := findClass_of_methodNamed B.named
  have hD := hD0.self (sz := s.heap.size)
  have hl := lv_entry av (n := nL) hlen
  rw [lg_entry_eq]
  exact body p e s m _ below meth c _ _ rfl ⟨B.exec, B.bytes, hml, hown, fun w hw => hts w (List.mem_cons_of_mem _ hw), hK, B.notSynchronized, fun q h => Or.inr h⟩ B.returns hsc s.heap [] _ hP hD va_S.rf hl
theorem cv_in {l : Launch} {y : MethodName} {cc : ByteArray} {nL : Nat} {rm : Room} {D : va_G} {cl : List vw_C} {tys : List (ClassId × FieldType)} {av : List Value} {cells : va_W} {post : va_W → Prop} (hy : plainName y.cls = true) (hlen : (lg_sl av).length ≤ nL) {a0 : List Nat} (ha0 : cells.map Prod.fst = a0)
    (body : ∀ (p : Program) (e : Env) (s : State) (m : MethodId) (args : Array Value) (below : List Frame) (meth : Method) (c : Code) (A : Nat → Prop) (Q : State → Prop), MQ below (va_Qv post (BW D cl a0) A) args s 0 0 A = Q → Bs p s m args meth c D cl tys A nL cc y.cls → meth.sig.returnType = none → sc D A s s.heap → Sx p l e rm s m args below meth c D cl A nL Q 0 (lv_args 0 av) [] cells) : Cv l y (WW y cc nL none) rm D cl tys av cells post := by
  subst ha0
  intro sz
  refine Met.ofW (cc := cc) (maxL := nL) (ret := none) hy rfl ?_
  intro p e s m args below meth c s₁ B hml hv
  obtain ⟨rfl, hsz, hP, hK, hD0, hsc⟩ := hv
  subst hsz
  have hts := atoms_spec (ws := WW y cc nL none) B.pre
  have hown := findClass_of_methodNamed B.named
  have hD := hD0.self (sz := s.heap.size)
  have hl := lv_entry av (n := nL) hlen
  rw [lg_entry_eq]
  exact body p e s m _ below meth c _ _ rfl ⟨B.exec, B.bytes, hml, hown, fun w hw => hts w (List.mem_cons_of_mem _ hw), hK, B.notSynchronized, fun q h => Or.inr h⟩ B.returns hsc s.heap [] _ hP hD va_S.rf hl
section SXN
variable {p : Program} {l : Launch} {e : Env} {R : Room} {s : State} {m : MethodId} {args : Array Value} {below : List Frame} {meth : Method} {c : Code} {Q : State → Prop} {D : va_G} {cl : List vw_C} {tys : List (ClassId × FieldType)} {A : Nat → Prop} {nL pc : Nat} {lv : List (Nat × Value)} {st : List Value} {ws : va_W} {cc : ByteArray} {own : String}
theorem s_ialdN (B : Bs p s m args meth c D cl tys A nL cc own) (q0 t0 : Nat) {a : Nat} {cA : ClassId} {n : Nat} {f : Nat → Int32} (ha : ws[q0]? = some (a, .inl (cA, n, .inl f))) (ht : tys[t0]? = some (cA, .int)) {k : Nat} (hdg : decode cc pc = .ok (.iaload, 1)) (hk : k < n) (hn : n < 2 ^ 31)
    (kk : Sx p l e R s m args below meth c D cl A nL Q (pc + 1) lv (.int (f k) :: st) ws) : Sx p l e R s m args below meth c D cl A nL Q pc lv (.int (nI k) :: .ref a :: st) ws :=
  s_iald B q0 t0 ha ht hdg (vp_in_nI hk hn) (by rw [nI_clamp (Nat.lt_trans hk hn)]; exact kk)
theorem s_baldN (B : Bs p s m args meth c D cl tys A nL cc own) (q0 t0 : Nat) {a : Nat} {cA : ClassId} {n : Nat} {f : Nat → Int32} (ha : ws[q0]? = some (a, .inl (cA, n, .inl f))) (ht : tys[t0]? = some (cA, .byte)) {k : Nat} (hdg : decode cc pc = .ok (.baload, 1)) (hk : k < n) (hn : n < 2 ^ 31)
    (kk : Sx p l e R s m args below meth c D cl A nL Q (pc + 1) lv (.int (f k) :: st) ws) : Sx p l e R s m args below meth c D cl A nL Q pc lv (.int (nI k) :: .ref a :: st) ws :=
  s_bald B q0 t0 ha ht hdg (vp_in_nI hk hn) (by rw [nI_clamp (Nat.lt_trans hk hn)]; exact kk)
theorem s_laldN (B : Bs p s m args meth c D cl tys A nL cc own) (q0 t0 : Nat) {a : Nat} {cA : ClassId} {n : Nat} {f : Nat → Int64} (ha : ws[q0]? = some (a, .inl (cA, n, .inr (.inl f)))) (ht : tys[t0]? = some (cA, .long)) {k : Nat} (hdg : decode cc pc = .ok (.laload, 1)) (hk : k < n) (hn : n < 2 ^ 31)
    (kk : Sx p l e R s m args below meth c D cl A nL Q (pc + 1) lv (.long (f k) :: st) ws) : Sx p l e R s m args below meth c D cl A nL Q pc lv (.int (nI k) :: .ref a :: st) ws :=
  s_lald B q0 t0 ha ht hdg (vp_in_nI hk hn) (by rw [nI_clamp (Nat.lt_trans hk hn)]; exact kk)
theorem s_aldqN (B : Bs p s m args meth c D cl tys A nL cc own) (q0 t0 : Nat) {a : Nat} {cA : ClassId} {C : String} {n : Nat} {f : Nat → Option Nat} (ha : ws[q0]? = some (a, .inl (cA, n, .inr (.inr (.inr (.inr f)))))) (ht : tys[t0]? = some (cA, .object C)) {k : Nat} (hdg : decode cc pc = .ok (.aaload, 1)) (hk : k < n) (hn : n < 2 ^ 31) {v : Value} (hv : va_rf (f k) = v)
    (kk : Sx p l e R s m args below meth c D cl A nL Q (pc + 1) lv (v :: st) ws) : Sx p l e R s m args below meth c D cl A nL Q pc lv (.int (nI k) :: .ref a :: st) ws :=
  s_aldq B q0 t0 ha ht hdg (vp_in_nI hk hn) (by rw [nI_clamp (Nat.lt_trans hk hn)]; exact hv) kk
theorem s_iastN (B : Bs p s m args meth c D cl tys A nL cc own) (q0 t0 : Nat) {a : Nat} {cA : ClassId} {n : Nat} {f : Nat → Int32} (ha : ws[q0]? = some (a, .inl (cA, n, .inl f))) (ht : tys[t0]? = some (cA, .int)) {k : Nat} {x : Int32} {ws' : va_W} (hw : ws.set q0 (a, .inl (cA, n, .inl (upd f k x))) = ws') (hdg : decode cc pc = .ok (.iastore, 1)) (hk : k < n) (hn : n < 2 ^ 31)
    (kk : Sx p l e R s m args below meth c D cl A nL Q (pc + 1) lv st ws') : Sx p l e R s m args below meth c D cl A nL Q pc lv (.int x :: .int (nI k) :: .ref a :: st) ws :=
  s_iast B q0 t0 ha ht (by rw [nI_clamp (Nat.lt_trans hk hn)]; exact hw) hdg (vp_in_nI hk hn) kk
theorem s_bastN (B : Bs p s m args meth c D cl tys A nL cc own) (q0 t0 : Nat) {a : Nat} {cA : ClassId} {n : Nat} {f : Nat → Int32} (ha : ws[q0]? = some (a, .inl (cA, n, .inl f))) (ht : tys[t0]? = some (cA, .byte)) {k : Nat} {x : Int32} {ws' : va_W} (hw : ws.set q0 (a, .inl (cA, n, .inl (upd f k (vp_nar .byte x)))) = ws') (hdg : decode cc pc = .ok (.bastore, 1)) (hk : k < n) (hn : n < 2 ^ 31)
    (kk : Sx p l e R s m args below meth c D cl A nL Q (pc + 1) lv st ws') : Sx p l e R s m args below meth c D cl A nL Q pc lv (.int x :: .int (nI k) :: .ref a :: st) ws :=
  s_bast B q0 t0 ha ht (by rw [nI_clamp (Nat.lt_trans hk hn)]; exact hw) hdg (vp_in_nI hk hn) kk
theorem s_lastN (B : Bs p s m args meth c D cl tys A nL cc own) (q0 t0 : Nat) {a : Nat} {cA : ClassId} {n : Nat} {f : Nat → Int64} (ha : ws[q0]? = some (a, .inl (cA, n, .inr (.inl f)))) (ht : tys[t0]? = some (cA, .long)) {k : Nat} {x : Int64} {ws' : va_W} (hw : ws.set q0 (a, .inl (cA, n, .inr (.inl (vp_updL f k x)))) = ws') (hdg : decode cc pc = .ok (.lastore, 1)) (hk : k < n) (hn : n < 2 ^ 31)
    (kk : Sx p l e R s m args below meth c D cl A nL Q (pc + 1) lv st ws') : Sx p l e R s m args below meth c D cl A nL Q pc lv (.long x :: .int (nI k) :: .ref a :: st) ws :=
  s_last B q0 t0 ha ht (by rw [nI_clamp (Nat.lt_trans hk hn)]; exact hw) hdg (vp_in_nI hk hn) kk
theorem s_tiN (B : Bs p s m args meth c D cl tys A nL cc own) {t N : Nat} {f : Nat → Int32} (hT : va_T .int t N (fun j => .int (f j)) A s s.heap) {k : Nat} (hdg : decode cc pc = .ok (.iaload, 1)) (hk : k < N) (hn : N < 2 ^ 31)
    (kk : Sx p l e R s m args below meth c D cl A nL Q (pc + 1) lv (.int (f k) :: st) ws) : Sx p l e R s m args below meth c D cl A nL Q pc lv (.int (nI k) :: .ref t :: st) ws :=
  s_ti B hT hdg (vp_in_nI hk hn) (by rw [nI_clamp (Nat.lt_trans hk hn)]; exact kk)
theorem s_alen (B : Bs p s m args meth c D cl tys A nL cc own) (q0 t0 : Nat) {a : Nat} {cA : ClassId} {x : vp_A} (ha : ws[q0]? = some (a, .inl (cA, x))) {ty : FieldType} (ht : tys[t0]? = some (cA, ty)) {v : Int32} (hv : Int32.ofNat x.1 = v) (hdg : decode cc pc = .ok (.arraylength, 1))
    (kk : Sx p l e R s m args below meth c D cl A nL Q (pc + 1) lv (.int v :: st) ws) : Sx p l e R s m args below meth c D cl A nL Q pc lv (.ref a :: st) ws :=
  fun H locs ls hP hD hS hl => va_alen B.1 B.2.1 B.2.2.2.2.2.1 hP q0 t0 ha ht hv hdg (kk H locs ls hP hD hS hl)
theorem s_ldc (B : Bs p s m args meth c D cl tys A nL cc own) {index : Nat} {v : Int32} (hc : Cond.constant own index v ∈ lw_gd) (hdg : decode cc pc = .ok (.ldc index, 2)) (k : Sx p l e R s m args below meth c D cl A nL Q (pc + 2) lv (.int v :: st) ws) : Sx p l e R s m args below meth c D cl A nL Q pc lv st ws :=
  fun H locs ls hP hD hS hl => lv_ldc B.1 B.2.1 B.2.2.2.1 (B.2.2.2.2.1 _ hc) hdg (k H locs ls hP hD hS hl)
theorem s_ldcw (B : Bs p s m args meth c D cl tys A nL cc own) {index : Nat} {v : Int32} (hc : Cond.constant own index v ∈ lw_gd) (hdg : decode cc pc = .ok (.ldc_w index, 3)) (k : Sx p l e R s m args below meth c D cl A nL Q (pc + 3) lv (.int v :: st) ws) : Sx p l e R s m args below meth c D cl A nL Q pc lv st ws :=
  fun H locs ls hP hD hS hl => lv_ldcw B.1 B.2.1 B.2.2.2.1 (B.2.2.2.2.1 _ hc) hdg (k H locs ls hP hD hS hl)
theorem s_ldc2 (B : Bs p s m args meth c D cl tys A nL cc own) {index : Nat} {v : Int64} (hc : Cond.constantLong own index v ∈ lw_gd) (hdg : decode cc pc = .ok (.ldc2_w index, 3)) (k : Sx p l e R s m args below meth c D cl A nL Q (pc + 3) lv (.long v :: st) ws) : Sx p l e R s m args below meth c D cl A nL Q pc lv st ws :=
  fun H locs ls hP hD hS hl => lv_ldc2 B.1 B.2.1 B.2.2.2.1 (B.2.2.2.2.1 _ hc) hdg (k H locs ls hP hD hS hl)
theorem s_lve {lv' : List (Nat × Value)} (h : lv = lv') (k : Sx p l e R s m args below meth c D cl A nL Q pc lv' st ws) : Sx p l e R s m args below meth c D cl A nL Q pc lv st ws := h ▸ k
theorem s_st {st' : List Value} (h : st = st') (k : Sx p l e R s m args below meth c D cl A nL Q pc lv st' ws) : Sx p l e R s m args below meth c D cl A nL Q pc lv st ws := h ▸ k
end SXN
/-! ===== branches on a truth that is told as 1 or 0 ===== -/
section SXB
variable {p : Program} {l : Launch} {e : Env} {R : Room} {s : State} {m : MethodId} {args : Array Value} {below : List Frame} {meth : Method} {c : Code} {Q : State → Prop} {D : va_G} {cl : List vw_C} {tys : List (ClassId × FieldType)} {A : Nat → Prop} {nL pc : Nat} {lv : List (Nat × Value)} {st : List Value} {ws : va_W} {cc : ByteArray} {own : String}
theorem bif_0 {b : Prop} {hd : Decidable b} (h : (if b then (1 : Int32) else 0) = 0) : ¬ b := fun hb => by rw [if_pos hb] at h; exact absurd h (by decide)
theorem bif_1 {b : Prop} {hd : Decidable b} (h : ¬ (if b then (1 : Int32) else 0) = 0) : b := by
  by_cases hb : b
  · exact hb
  · rw [if_neg hb] at h; exact absurd rfl h
theorem s_bif_eq (B : Bs p s m args meth c D cl tys A nL cc own) {b : Prop} {hd : Decidable b} {off : Int} {tgt : Nat} (hdg : decode cc pc = .ok (.ifCond .eq off, 3)) (ht : (pc : Int) + off = (tgt : Int)) (kt : ¬ b → Sx p l e R s m args below meth c D cl A nL Q tgt lv st ws) (kf : b → Sx p l e R s m args below meth c D cl A nL Q (pc + 3) lv st ws) : Sx p l e R s m args below meth c D cl A nL Q pc lv (.int (if b then 1 else 0) :: st) ws :=
  s_if_eq B hdg ht (fun h => kt (bif_0 h)) (fun h => kf (bif_1 h))
theorem s_bif_ne (B : Bs p s m args meth c D cl tys A nL cc own) {b : Prop} {hd : Decidable b} {off : Int} {tgt : Nat} (hdg : decode cc pc = .ok (.ifCond .ne off, 3)) (ht : (pc : Int) + off = (tgt : Int)) (kt : b → Sx p l e R s m args below meth c D cl A nL Q tgt lv st ws) (kf : ¬ b → Sx p l e R s m args below meth c D cl A nL Q (pc + 3) lv st ws) : Sx p l e R s m args below meth c D cl A nL Q pc lv (.int (if b then 1 else 0) :: st) ws :=
  s_if_ne B hdg ht (fun h => kt (bif_1 h)) (fun h => kf (bif_0 h))
end SXB
def mUshr (x y : Int32) : Int32 := (x.toUInt32 >>> (y.toUInt32 &&& Int32.toUInt32 31)).toInt32
abbrev TY (g : Nat → ClassId) : List (ClassId × FieldType) := [(g 0, .int), (g 1, .byte), (g 2, .long), (g 3, .object RX3), (g 4, .object RX4)]
theorem z_if (b : Prop) {hd : Decidable b} : narrow .boolean (.int (if b then 1 else 0)) = .int (if b then 1 else 0) := by by_cases h : b <;> simp only [h, if_true, if_false] <;> rfl
def mMax (x y : Int32) : Int32 := if x < y then y else x
/-! ===== calls over Sx: the callee's cells are put back at their places ===== -/
def va_ix : List Nat → va_W → Nat → Option (Nat × va_E)
  | i :: is, c :: u, k => if Nat.beq i k then some c else va_ix is u k
  | _, _, _ => none
def va_rk (is : List Nat) (u : va_W) : Nat → va_W → va_W
  | _, [] => []
  | k, c :: r => (match va_ix is u k with | some x => x | none => c) :: va_rk is u (k + 1) r
def va_rj (ws : va_W) (is : List Nat) (u : va_W) : va_W := va_rk is u 0 ws
theorem ix_some : ∀ (is : List Nat) (u : va_W) (k : Nat) (q : Nat × va_E), va_ix is u k = some q → ∃ j : Nat, u[j]? = some q ∧ is[j]? = some k
  | [], _, _, _, h => by simp [va_ix] at h
  | _ :: _, [], _, _, h => by simp [va_ix] at h
  | i :: is, c :: u, k, q, h => by
    unfold va_ix at h
    by_cases e : i = k
    · subst e
      rw [if_pos (by simp)] at h
      cases h
      exact ⟨0, rfl, rfl⟩
    · rw [if_neg (by simp [e])] at h
      obtain ⟨j, h1, h2⟩ := ix_some is u k q h
      exact ⟨j + 1, h1, h2⟩
theorem ix_none : ∀ (is : List Nat) (u : va_W) (k : Nat), is.length = u.length → va_ix is u k = none → k ∉ is
  | [], _, _, _, _ => List.not_mem_nil
  | _ :: _, [], _, h, _ => by simp at h
  | i :: is, c :: u, k, hl, h => by
    unfold va_ix at h
    by_cases e : i = k
    · subst e; rw [if_pos (by simp)] at h; cases h
    · rw [if_neg (by simp [e])] at h
      exact fun hm => (List.mem_cons.mp hm).elim (fun e2 => e e2.symm) (ix_none is u k (by simpa using hl) h)
theorem rk_at (is : List Nat) (u : va_W) : ∀ (ws : va_W) (o k : Nat), (va_rk is u o ws)[k]? = (ws[k]?).map (fun c => match va_ix is u (o + k) with | some x => x | none => c)
  | [], o, k => by simp [va_rk]
  | c :: r, o, 0 => by simp [va_rk]
  | c :: r, o, k + 1 => by
    show (va_rk is u (o + 1) r)[k]? = (r[k]?).map _
    rw [rk_at is u r (o + 1) k, show o + 1 + k = o + (k + 1) by omega]
theorem rj_at (is : List Nat) (u ws : va_W) (hl : is.length = u.length) (k : Nat) (q : Nat × va_E) (h : (va_rj ws is u)[k]? = some q) : (∃ j : Nat, u[j]? = some q ∧ is[j]? = some k) ∨ (ws[k]? = some q ∧ k ∉ is) := by
  unfold va_rj at h
  rw [rk_at, Nat.zero_add] at h
  cases hw : ws[k]? with
  | none => rw [hw] at h; cases h
  | some c =>
    rw [hw] at h
    simp only [Option.map_some] at h
    cases hx : va_ix is u k with
    | none => rw [hx] at h; cases h; exact Or.inr ⟨rfl, ix_none is u k hl hx⟩
    | some x =>
      rw [hx] at h
      cases h
      obtain ⟨j, h1, h2⟩ := ix_some is u k _ hx
      exact Or.inl ⟨j, h1, h2⟩
theorem rj_old (is : List Nat) (u ws : va_W) (k : Nat) (h : ws[k]? = none) : (va_rj ws is u)[k]? = none := by
  unfold va_rj
  rw [rk_at, h]
  rfl
theorem rj_to {D : va_G} {cl : List vw_C} {A0 : Nat → Prop} {ws sub u : va_W} {H H1 : Heap} {is : List Nat} (hP : va_P D cl ws H) (hD : va_D A0 ws) (hC : is.map (fun i => ws[i]?) = sub.map some) (hu : u.map Prod.fst = sub.map Prod.fst) (hP1 : va_P D cl u H1) (hk : ∀ q : Nat, q < H.size → ¬ va_A sub H.size q → H1[q]? = H[q]?) : va_P D cl (va_rj ws is u) H1 ∧ va_D A0 (va_rj ws is u) := by
  have hl : is.length = u.length := by
    have h1 := congrArg List.length hC
    have h2 := congrArg List.length hu
    simp only [List.length_map] at h1 h2
    omega
  have hsub : ∀ (j : Nat) (i : Nat), is[j]? = some i → ∃ q, ws[i]? = some q ∧ sub[j]? = some q := by
    intro j i hj
    have h1 : (is.map (fun i => ws[i]?))[j]? = (sub.map some)[j]? := by rw [hC]
    rw [List.getElem?_map, List.getElem?_map, hj] at h1
    cases hs : sub[j]? with
    | none => rw [hs] at h1; cases h1
    | some q => rw [hs] at h1; exact ⟨q, by simpa using h1, rfl⟩
  have hfst : ∀ (j : Nat) (q q' : Nat × va_E), u[j]? = some q → sub[j]? = some q' → q.1 = q'.1 := by
    intro j q q' h1 h2
    have h3 : (u.map Prod.fst)[j]? = (sub.map Prod.fst)[j]? := by rw [hu]
    rw [List.getElem?_map, List.getElem?_map, h1, h2] at h3
    exact Option.some.inj h3
  have old : ∀ (k : Nat) (q : Nat × va_E), (va_rj ws is u)[k]? = some q → ∃ q', ws[k]? = some q' ∧ q'.1 = q.1 := by
    intro k q h
    rcases rj_at is u ws hl k q h with ⟨j, h1, h2⟩ | ⟨h1, _⟩
    · obtain ⟨q', h3, h4⟩ := hsub j k h2
      exact ⟨q', h3, (hfst j q q' h1 h4).symm⟩
    · exact ⟨q, h1, rfl⟩
  refine ⟨fun k q h => ?_, ⟨fun i j x y hx hy hxy => ?_, fun k q h => ?_⟩⟩
  · rcases rj_at is u ws hl k q h with ⟨j, h1, h2⟩ | ⟨h1, h2⟩
    · exact hP1 j q h1
    · have hlt := (hP k q h1).lt
      refine (hP k q h1).kept (hk q.1 hlt (fun ha => ?_))
      rcases ha with ⟨j, e, hj⟩ | hge
      · have hjl : j < is.length := by
          have h3 := congrArg List.length hC
          simp only [List.length_map] at h3
          have h4 := (List.getElem?_eq_some_iff.mp hj).1
          omega
        obtain ⟨q', h3, h4⟩ := hsub j is[j] (List.getElem?_eq_getElem hjl)
        rw [hj] at h4
        cases h4
        have := hD.1 k is[j] q (q.1, e) h1 h3 rfl
        exact h2 (this ▸ List.getElem_mem hjl)
      · omega
  · obtain ⟨x', h1, h2⟩ := old i x hx
    obtain ⟨y', h3, h4⟩ := old j y hy
    exact hD.1 i j x' y' h1 h3 (by rw [h2, h4, hxy])
  · obtain ⟨q', h1, h2⟩ := old k q h
    rw [← h2]
    exact hD.2 k q' h1
theorem tbl_good : ∀ w ∈ lw_gd, goodWord w = true := fun w h => (List.mem_filter.mp h).2
theorem gw_S {own : String} {idx : Nat} {y : MethodName} {b : ByteArray} {n : Nat} {ret : Option FieldType} (h1 : Cond.methodLink own idx y ∈ lw_gd) (h2 : Cond.static y ∈ lw_gd) (h3 : Cond.initialized y.cls ∈ lw_gd) (h4 : Cond.code y b n ret ∈ lw_gd) : GoodIn lw_gd (va_wsS own idx y (WW y b n ret)) := by
  have hm : ∀ w ∈ va_wsS own idx y (WW y b n ret), w ∈ lw_gd := by
    intro w hw
    rcases List.mem_append.mp hw with hw | hw
    · simp only [List.mem_cons, List.not_mem_nil, or_false] at hw
      rcases hw with rfl | rfl | rfl <;> assumption
    · rcases List.mem_cons.mp hw with rfl | hw
      · exact h4
      · exact hw
  exact fun w hw => ⟨hm w hw, good_of_word (tbl_good w (hm w hw))⟩
theorem gw_V {own C : String} {idx : Nat} {y : MethodName} {b : ByteArray} {n : Nat} {ret : Option FieldType} (h1 : Cond.methodLink own idx y ∈ lw_gd) (h2 : Cond.instanceMethod y ∈ lw_gd) (h3 : Cond.selects C y y ∈ lw_gd) (h4 : Cond.initialized C ∈ lw_gd) (h5 : Cond.code y b n ret ∈ lw_gd) : GoodIn lw_gd (wsV own idx C y (WW y b n ret)) := by
  have hm : ∀ w ∈ wsV own idx C y (WW y b n ret), w ∈ lw_gd := by
    intro w hw
    rcases List.mem_append.mp hw with hw | hw
    · simp only [List.mem_cons, List.not_mem_nil, or_false] at hw
      rcases hw with rfl | rfl | rfl | rfl <;> assumption
    · rcases List.mem_cons.mp hw with rfl | hw
      · exact h5
      · exact hw
  exact fun w hw => ⟨hm w hw, good_of_word (tbl_good w (hm w hw))⟩
section SXC
variable {p : Program} {l : Launch} {e : Env} {R : Room} {s : State} {m : MethodId} {args : Array Value} {below : List Frame} {meth : Method} {c : Code} {Q : State → Prop} {D : va_G} {cl : List vw_C} {tys tys2 : List (ClassId × FieldType)} {A : Nat → Prop} {nL pc : Nat} {lv : List (Nat × Value)} {st st0 : List Value} {ws sub : va_W} {cc bytes : ByteArray} {own C : String} {y : MethodName} {maxL n index : Nat} {rt : FieldType} {rm : Room} {As : List Value}
theorem cp_blind {av : List Value} {cells : va_W} {sz : Nat} : FrameBlind (CP D cl tys av cells sz) := fun a U g mk q => by
  obtain ⟨q0, q1, qP, qK, qD, qS⟩ := q
  exact ⟨q0, q1, qP, va_K.moved (u := U) (U := U.calling g mk a) (Vm.Alike.refl U.vm) qK, qD, qS.same (u := U) (U := U.calling g mk a) rfl⟩
/-- the callee's premise at the call -/
theorem cp_at (B : Bs p s m args meth c D cl tys A nL cc own) (hsc : sc D A s s.heap) {H : Heap} {locs : List Loc} (hP : va_P D cl ws H) (hD : va_D A ws) (hS : va_S A s.heap H locs) (is ty : List Nat) (hC : is.map (fun i => ws[i]?) = sub.map some) (hnd : va_nd is = true) (hty : ty.filterMap (fun i => tys[i]?) = tys2) {av : List Value} : ∀ U : State, U.heap = H → s.WarmedH U.vm → CP D cl tys2 av sub H.size av.toArray U := by
  intro U hU hW
  have hF := va_free (wc := sub) hD hS B.2.2.2.2.2.2.2 is hC
  refine ⟨rfl, by rw [hU], ?_, va_K.moved hW.alike (B.2.2.2.2.2.1.sub ty hty), ?_, ?_⟩
  · rw [hU]
    intro k q hq
    have h1 : (is.map (fun i => ws[i]?))[k]? = (sub.map some)[k]? := by rw [hC]
    rw [List.getElem?_map, List.getElem?_map, hq] at h1
    cases hi : is[k]? with
    | none => rw [hi] at h1; cases h1
    | some i => rw [hi] at h1; exact hP i q (Option.some.inj h1)
  · exact (hD.sub is hnd hC).weaken (fun _ _ _ _ => trivial)
  · have h1 : sc D A s U.heap := hsc.kept (fun a ha hna => by rw [hU]; exact hS.2.1 a ha hna)
    exact (h1.narrow hF).warm hW
theorem cw_V (B : Bs p s m args meth c D cl tys A nL cc own) {ret : Option FieldType} (hT : GoodIn lw_gd (wsV own index C y (WW y bytes maxL ret))) (hd : y.cls = C ∧ y.cls ≠ "java/lang/invoke/MethodHandle" ∧ y.cls ≠ "java/lang/invoke/VarHandle" ∧ (parseMethodDescriptor y.desc).map (fun d => d.parameters.length) = some n) (h0 : rm.cells = 0) (h1 : rm.slots = 0) (hR : rm.frames + 1 ≤ R.frames ∧ 8 + (maxL + 11) + rm.locals ≤ R.locals) : CallW R s args own C index y bytes maxL ret (WW y bytes maxL ret) rm 0 0 n :=
  cwV n B.2.2.2.2.1 hT rfl h0 h1 hd hR
theorem cw_S (B : Bs p s m args meth c D cl tys A nL cc own) {ret : Option FieldType} (hT : GoodIn lw_gd (va_wsS own index y (WW y bytes maxL ret))) (hd : y.cls ≠ "java/lang/invoke/MethodHandle" ∧ y.cls ≠ "java/lang/invoke/VarHandle" ∧ (parseMethodDescriptor y.desc).map (fun d => d.parameters.length) = some n) (h0 : rm.cells = 0) (h1 : rm.slots = 0) (hR : rm.frames + 1 ≤ R.frames ∧ 8 + (maxL + 11) + rm.locals ≤ R.locals) : CallB R s args own index y bytes maxL ret (WW y bytes maxL ret) rm 0 0 n ∧ (Cond.static y).before args s = true :=
  va_cwS n B.2.2.2.2.1 hT rfl h0 h1 hd hR
theorem s_callVi (B : Bs p s m args meth c D cl tys A nL cc own) (hsc : sc D A s s.heap) {b : Nat} {post : Int32 → va_W → Prop} (hM : Ci l y (WW y bytes maxL (some rt)) rm D cl tys2 (.ref b :: As) sub post) (hT : GoodIn lw_gd (wsV own index C y (WW y bytes maxL (some rt)))) (hd : y.cls = C ∧ y.cls ≠ "java/lang/invoke/MethodHandle" ∧ y.cls ≠ "java/lang/invoke/VarHandle" ∧ (parseMethodDescriptor y.desc).map (fun d => d.parameters.length) = some n) (h0 : rm.cells = 0) (h1 : rm.slots = 0) (hR : rm.frames + 1 ≤ R.frames ∧ 8 + (maxL + 11) + rm.locals ≤ R.locals)
    (is ty : List Nat) (hC : is.map (fun i => ws[i]?) = sub.map some) (hnd : va_nd is = true) (hty : ty.filterMap (fun i => tys[i]?) = tys2) {ci q0 : Nat} {qc : vw_C} {fs : List Value} (hcl : cl[ci]? = some qc) (hqc : qc.1 = C) (he : sub[q0]? = some (b, .inr (ci, fs))) (hn : As.length = n) (hst : st0 = As.reverse ++ .ref b :: st) (hcat : (st.map fun v => v.category).sum ≤ 8) (hdg : decode cc pc = .ok (.invokevirtual index, 3))
    (kk : ∀ (r : Int32) (u : va_W), post r u → Sx p l e R s m args below meth c D cl A nL Q (pc + 3) lv (.int r :: st) (va_rj ws is u)) : Sx p l e R s m args below meth c D cl A nL Q pc lv st0 ws := by
  intro H locs ls hP hD hS hl
  have hpre := cp_at (av := .ref b :: As) B hsc hP hD hS is ty hC hnd hty
  have hF := va_free (wc := sub) hD hS B.2.2.2.2.2.2.2 is hC
  have hrec : ∃ cell : Cell, H[b]? = some cell ∧ cell.vm.isStatics = false ∧ s.vm.findClass C = some cell.cls := by
    have hPc : va_P D cl sub H := fun k q hq => by
      have h1 : (is.map (fun i => ws[i]?))[k]? = (sub.map some)[k]? := by rw [hC]
      rw [List.getElem?_map, List.getElem?_map, hq] at h1
      cases hi : is[k]? with
      | none => rw [hi] at h1; cases h1
      | some i => rw [hi] at h1; exact hP i q (Option.some.inj h1)
    rw [← hqc]
    exact va_recv B.2.2.2.2.2.1 hPc hcl he
  subst hst
  refine va_calli (va_runV (As := As) (rest := st) ⟨B.1, B.2.1, B.2.2.1, B.2.2.2.1, B.2.2.2.2.1⟩ (hM H.size) (cw_V B hT hd h0 h1 hR) ⟨cp_blind, hrec, hpre⟩ rfl hn hl.1 rfl (lv_room hcat) hdg ⟨Nat.zero_le _, Nat.zero_le _⟩) hS (fun q _ h => hF q h) hF (fun r u t H1 locs1 ht hvm hpo hB hz hk hS1 => ?_)
  obtain ⟨hP1, hu⟩ := hB
  rw [ht] at hP1
  obtain ⟨g1, g2⟩ := rj_to hP hD hC hu hP1 hk
  exact kk r u hpo H1 locs1 ls g1 g2 hS1 hl
theorem s_callVl (B : Bs p s m args meth c D cl tys A nL cc own) (hsc : sc D A s s.heap) {b : Nat} {post : Int64 → va_W → Prop} (hM : Cl l y (WW y bytes maxL (some rt)) rm D cl tys2 (.ref b :: As) sub post) (hT : GoodIn lw_gd (wsV own index C y (WW y bytes maxL (some rt)))) (hd : y.cls = C ∧ y.cls ≠ "java/lang/invoke/MethodHandle" ∧ y.cls ≠ "java/lang/invoke/VarHandle" ∧ (parseMethodDescriptor y.desc).map (fun d => d.parameters.length) = some n) (h0 : rm.cells = 0) (h1 : rm.slots = 0) (hR : rm.frames + 1 ≤ R.frames ∧ 8 + (maxL + 11) + rm.locals ≤ R.locals)
    (is ty : List Nat) (hC : is.map (fun i => ws[i]?) = sub.map some) (hnd : va_nd is = true) (hty : ty.filterMap (fun i => tys[i]?) = tys2) {ci q0 : Nat} {qc : vw_C} {fs : List Value} (hcl : cl[ci]? = some qc) (hqc : qc.1 = C) (he : sub[q0]? = some (b, .inr (ci, fs))) (hn : As.length = n) (hst : st0 = As.reverse ++ .ref b :: st) (hcat : (st.map fun v => v.category).sum ≤ 8) (hdg : decode cc pc = .ok (.invokevirtual index, 3))
    (kk : ∀ (r : Int64) (u : va_W), post r u → Sx p l e R s m args below meth c D cl A nL Q (pc + 3) lv (.long r :: st) (va_rj ws is u)) : Sx p l e R s m args below meth c D cl A nL Q pc lv st0 ws := by
  intro H locs ls hP hD hS hl
  have hpre := cp_at (av := .ref b :: As) B hsc hP hD hS is ty hC hnd hty
  have hF := va_free (wc := sub) hD hS B.2.2.2.2.2.2.2 is hC
  have hrec : ∃ cell : Cell, H[b]? = some cell ∧ cell.vm.isStatics = false ∧ s.vm.findClass C = some cell.cls := by
    have hPc : va_P D cl sub H := fun k q hq => by
      have h1 : (is.map (fun i => ws[i]?))[k]? = (sub.map some)[k]? := by rw [hC]
      rw [List.getElem?_map, List.getElem?_map, hq] at h1
      cases hi : is[k]? with
      | none => rw [hi] at h1; cases h1
      | some i => rw [hi] at h1; exact hP i q (Option.some.inj h1)
    rw [← hqc]
    exact va_recv B.2.2.2.2.2.1 hPc hcl he
  subst hst
  refine va_calll (va_runV (As := As) (rest := st) ⟨B.1, B.2.1, B.2.2.1, B.2.2.2.1, B.2.2.2.2.1⟩ (hM H.size) (cw_V B hT hd h0 h1 hR) ⟨cp_blind, hrec, hpre⟩ rfl hn hl.1 rfl (lv_room hcat) hdg ⟨Nat.zero_le _, Nat.zero_le _⟩) hS (fun q _ h => hF q h) hF (fun r u t H1 locs1 ht hvm hpo hB hz hk hS1 => ?_)
  obtain ⟨hP1, hu⟩ := hB
  rw [ht] at hP1
  obtain ⟨g1, g2⟩ := rj_to hP hD hC hu hP1 hk
  exact kk r u hpo H1 locs1 ls g1 g2 hS1 hl
theorem s_callVv (B : Bs p s m args meth c D cl tys A nL cc own) (hsc : sc D A s s.heap) {b : Nat} {post : va_W → Prop} (hM : Cv l y (WW y bytes maxL none) rm D cl tys2 (.ref b :: As) sub post) (hT : GoodIn lw_gd (wsV own index C y (WW y bytes maxL none))) (hd : y.cls = C ∧ y.cls ≠ "java/lang/invoke/MethodHandle" ∧ y.cls ≠ "java/lang/invoke/VarHandle" ∧ (parseMethodDescriptor y.desc).map (fun d => d.parameters.length) = some n) (h0 : rm.cells = 0) (h1 : rm.slots = 0) (hR : rm.frames + 1 ≤ R.frames ∧ 8 + (maxL + 11) + rm.locals ≤ R.locals)
    (is ty : List Nat) (hC : is.map (fun i => ws[i]?) = sub.map some) (hnd : va_nd is = true) (hty : ty.filterMap (fun i => tys[i]?) = tys2) {ci q0 : Nat} {qc : vw_C} {fs : List Value} (hcl : cl[ci]? = some qc) (hqc : qc.1 = C) (he : sub[q0]? = some (b, .inr (ci, fs))) (hn : As.length = n) (hst : st0 = As.reverse ++ .ref b :: st) (hcat : (st.map fun v => v.category).sum ≤ 8) (hdg : decode cc pc = .ok (.invokevirtual index, 3))
    (kk : ∀ (u : va_W), post u → Sx p l e R s m args below meth c D cl A nL Q (pc + 3) lv st (va_rj ws is u)) : Sx p l e R s m args below meth c D cl A nL Q pc lv st0 ws := by
  intro H locs ls hP hD hS hl
  have hpre := cp_at (av := .ref b :: As) B hsc hP hD hS is ty hC hnd hty
  have hF := va_free (wc := sub) hD hS B.2.2.2.2.2.2.2 is hC
  have hrec : ∃ cell : Cell, H[b]? = some cell ∧ cell.vm.isStatics = false ∧ s.vm.findClass C = some cell.cls := by
    have hPc : va_P D cl sub H := fun k q hq => by
      have h1 : (is.map (fun i => ws[i]?))[k]? = (sub.map some)[k]? := by rw [hC]
      rw [List.getElem?_map, List.getElem?_map, hq] at h1
      cases hi : is[k]? with
      | none => rw [hi] at h1; cases h1
      | some i => rw [hi] at h1; exact hP i q (Option.some.inj h1)
    rw [← hqc]
    exact va_recv B.2.2.2.2.2.1 hPc hcl he
  subst hst
  refine va_callv (va_runV (As := As) (rest := st) ⟨B.1, B.2.1, B.2.2.1, B.2.2.2.1, B.2.2.2.2.1⟩ (hM H.size) (cw_V B hT hd h0 h1 hR) ⟨cp_blind, hrec, hpre⟩ rfl hn hl.1 rfl (lv_room hcat) hdg ⟨Nat.zero_le _, Nat.zero_le _⟩) hS (fun q _ h => hF q h) hF (fun u t H1 locs1 ht hvm hpo hB hz hk hS1 => ?_)
  obtain ⟨hP1, hu⟩ := hB
  rw [ht] at hP1
  obtain ⟨g1, g2⟩ := rj_to hP hD hC hu hP1 hk
  exact kk u hpo H1 locs1 ls g1 g2 hS1 hl
theorem s_callSi (B : Bs p s m args meth c D cl tys A nL cc own) (hsc : sc D A s s.heap) {post : Int32 → va_W → Prop} (hM : Ci l y (WW y bytes maxL (some rt)) rm D cl tys2 As sub post) (hT : GoodIn lw_gd (va_wsS own index y (WW y bytes maxL (some rt)))) (hd : y.cls ≠ "java/lang/invoke/MethodHandle" ∧ y.cls ≠ "java/lang/invoke/VarHandle" ∧ (parseMethodDescriptor y.desc).map (fun d => d.parameters.length) = some n) (h0 : rm.cells = 0) (h1 : rm.slots = 0) (hR : rm.frames + 1 ≤ R.frames ∧ 8 + (maxL + 11) + rm.locals ≤ R.locals)
    (is ty : List Nat) (hC : is.map (fun i => ws[i]?) = sub.map some) (hnd : va_nd is = true) (hty : ty.filterMap (fun i => tys[i]?) = tys2) (hn : As.length = n) (hst : st0 = As.reverse ++ st) (hcat : (st.map fun v => v.category).sum ≤ 8) (hdg : decode cc pc = .ok (.invokestatic index, 3))
    (kk : ∀ (r : Int32) (u : va_W), post r u → Sx p l e R s m args below meth c D cl A nL Q (pc + 3) lv (.int r :: st) (va_rj ws is u)) : Sx p l e R s m args below meth c D cl A nL Q pc lv st0 ws := by
  intro H locs ls hP hD hS hl
  have hpre := cp_at (av := As) B hsc hP hD hS is ty hC hnd hty
  have hF := va_free (wc := sub) hD hS B.2.2.2.2.2.2.2 is hC
  subst hst
  refine va_calli (va_runS (As := As) (rest := st) ⟨B.1, B.2.1, B.2.2.1, B.2.2.2.1, B.2.2.2.2.1⟩ (hM H.size) (cw_S B hT hd h0 h1 hR) ⟨cp_blind, hpre⟩ rfl hn hl.1 rfl (lv_room hcat) hdg ⟨Nat.zero_le _, Nat.zero_le _⟩) hS (fun q _ h => hF q h) hF (fun r u t H1 locs1 ht hvm hpo hB hz hk hS1 => ?_)
  obtain ⟨hP1, hu⟩ := hB
  rw [ht] at hP1
  obtain ⟨g1, g2⟩ := rj_to hP hD hC hu hP1 hk
  exact kk r u hpo H1 locs1 ls g1 g2 hS1 hl
end SXC
/-! ===== rows beyond the length of an array don't matter; System.arraycopy of a whole row; static methods of a nest mate ===== -/
theorem arrV_ext {cA : ClassId} {n : Nat} {f f' : Nat → Value} (h : ∀ j, j < n → f j = f' j) : arrV cA n f = arrV cA n f' := by
  unfold arrV
  congr 1
  apply Array.ext
  · simp
  · intro i h1 h2
    simp only [Array.size_ofFn] at h1
    simp only [Array.getElem_ofFn]
    exact h i h1
theorem va_P.set1 {D : va_G} {cl : List vw_C} {ws : va_W} {H : Heap} {q0 a : Nat} {x x' : va_E} (hP : va_P D cl ws H) (ha : ws[q0]? = some (a, x)) (he : va_at D cl (a, x) H → va_at D cl (a, x') H) : va_P D cl (ws.set q0 (a, x')) H := by
  intro k q hq
  by_cases hk : q0 = k
  · subst hk
    rw [List.getElem?_set_self', ha] at hq
    cases hq
    exact he (hP q0 (a, x) ha)
  · rw [List.getElem?_set_ne hk] at hq
    exact hP k q hq
theorem va_D.set1 {A : Nat → Prop} {ws : va_W} {q0 a : Nat} {x x' : va_E} (hD : va_D A ws) (ha : ws[q0]? = some (a, x)) : va_D A (ws.set q0 (a, x')) := by
  have old : ∀ (k : Nat) (q : Nat × va_E), (ws.set q0 (a, x'))[k]? = some q → ∃ q', ws[k]? = some q' ∧ q'.1 = q.1 := by
    intro k q hq
    by_cases hk : q0 = k
    · subst hk
      rw [List.getElem?_set_self', ha] at hq
      cases hq
      exact ⟨(a, x), ha, rfl⟩
    · rw [List.getElem?_set_ne hk] at hq
      exact ⟨q, hq, rfl⟩
  refine ⟨fun i j y z hy hz hyz => ?_, fun k q hq => ?_⟩
  · obtain ⟨y', h1, h2⟩ := old i y hy
    obtain ⟨z', h3, h4⟩ := old j z hz
    exact hD.1 i j y' z' h1 h3 (by rw [h2, h4, hyz])
  · obtain ⟨q', h1, h2⟩ := old k q hq
    rw [← h2]
    exact hD.2 k q' h1
section SXE
variable {p : Program} {l : Launch} {e : Env} {R : Room} {s : State} {m : MethodId} {args : Array Value} {below : List Frame} {meth : Method} {c : Code} {Q : State → Prop} {D : va_G} {cl : List vw_C} {tys tys2 : List (ClassId × FieldType)} {A : Nat → Prop} {nL pc : Nat} {lv : List (Nat × Value)} {st st0 : List Value} {ws sub : va_W} {cc bytes : ByteArray} {own : String} {y : MethodName} {maxL n index : Nat} {rt : FieldType} {rm : Room} {As : List Value}
theorem s_iaddE (B : Bs p s m args meth c D cl tys A nL cc own) {x y v : Int32} (hdg : decode cc pc = .ok (.iadd, 1)) (hv : x + y = v) (k : Sx p l e R s m args below meth c D cl A nL Q (pc + 1) lv (.int v :: st) ws) : Sx p l e R s m args below meth c D cl A nL Q pc lv (.int y :: .int x :: st) ws := s_iadd B hdg (by rw [hv]; exact k)
theorem s_imulE (B : Bs p s m args meth c D cl tys A nL cc own) {x y v : Int32} (hdg : decode cc pc = .ok (.imul, 1)) (hv : x * y = v) (k : Sx p l e R s m args below meth c D cl A nL Q (pc + 1) lv (.int v :: st) ws) : Sx p l e R s m args below meth c D cl A nL Q pc lv (.int y :: .int x :: st) ws := s_imul B hdg (by rw [hv]; exact k)
theorem s_max (B : Bs p s m args meth c D cl tys A nL cc own) {x y : Int32} (hlink : Cond.methodLink own index Lib.Math.max.name ∈ lw_gd) (hframes : 1 ≤ R.frames) (hlocals : (st.map fun v => v.category).sum + 13 ≤ R.locals) (hdg : decode cc pc = .ok (.invokestatic index, 3)) (kk : Sx p l e R s m args below meth c D cl A nL Q (pc + 3) lv (.int (mMax x y) :: st) ws) : Sx p l e R s m args below meth c D cl A nL Q pc lv (.int y :: .int x :: st) ws :=
  fun H locs ls hP hD hS hl => va_mmax B.1 B.2.1 (by rw [B.2.2.1, hl.1]) B.2.2.2.1 (B.2.2.2.2.1 _ hlink) (B.2.2.2.2.1 _ sm_yJ9_max_7cf53) (B.2.2.2.2.1 _ ini_RJ9) (B.2.2.2.2.1 _ co_yJ9_max_7cf53) hframes hlocals (Nat.zero_le _) (Nat.zero_le _) hdg (kk H locs ls hP hD hS hl)
theorem s_ext (q0 : Nat) {a : Nat} {cA : ClassId} {n : Nat} {f f' : Nat → Int32} (ha : ws[q0]? = some (a, .inl (cA, n, .inl f))) (h : ∀ j, j < n → f j = f' j) {ws' : va_W} (hw : ws.set q0 (a, .inl (cA, n, .inl f')) = ws')
    (k : Sx p l e R s m args below meth c D cl A nL Q pc lv st ws') : Sx p l e R s m args below meth c D cl A nL Q pc lv st ws := by
  subst hw
  intro H locs ls hP hD hS hl
  refine k H locs ls (hP.set1 ha (fun h1 => ?_)) (hD.set1 ha) hS hl
  have h2 : H[a]? = some (vp_cell cA (n, .inl f)) := h1
  show H[a]? = some (vp_cell cA (n, .inl f'))
  rw [h2, vp_cell_i, vp_cell_i, arrV_ext (fun j hj => by rw [h j hj])]
theorem s_extL (q0 : Nat) {a : Nat} {cA : ClassId} {n : Nat} {f f' : Nat → Int64} (ha : ws[q0]? = some (a, .inl (cA, n, .inr (.inl f)))) (h : ∀ j, j < n → f j = f' j) {ws' : va_W} (hw : ws.set q0 (a, .inl (cA, n, .inr (.inl f'))) = ws')
    (k : Sx p l e R s m args below meth c D cl A nL Q pc lv st ws') : Sx p l e R s m args below meth c D cl A nL Q pc lv st ws := by
  subst hw
  intro H locs ls hP hD hS hl
  refine k H locs ls (hP.set1 ha (fun h1 => ?_)) (hD.set1 ha) hS hl
  have h2 : H[a]? = some (vp_cell cA (n, .inr (.inl f))) := h1
  show H[a]? = some (vp_cell cA (n, .inr (.inl f')))
  rw [h2, vp_cell_l, vp_cell_l, arrV_ext (fun j hj => by rw [h j hj])]
/-- System.arraycopy of all of one row of ints onto another of the same length -/
theorem s_copyA (B : Bs p s m args meth c D cl tys A nL cc own) (q0 q1 t0 : Nat) {a0 a : Nat} {c0 c1 : ClassId} {n : Nat} {f g : Nat → Int32} (hlink : Cond.methodLink own index arraycopyName ∈ lw_gd) (hnat : Cond.native arraycopyName ∈ lw_gd) (hstat : Cond.static arraycopyName ∈ lw_gd) (hini : Cond.initialized "java/lang/System" ∈ lw_gd)
    (ha0 : ws[q0]? = some (a0, .inl (c0, n, .inl f))) (ha1 : ws[q1]? = some (a, .inl (c1, n, .inl g))) (ht0 : tys[t0]? = some (c0, .int)) (ht1 : tys[t0]? = some (c1, .int)) (hn : n < 2 ^ 31) (hframes : 1 ≤ R.frames) (hlocals : (st.map fun v => v.category).sum + (nativeFrameWords "java/lang/System" "arraycopy" 5 + 11) ≤ R.locals) (hdg : decode cc pc = .ok (.invokestatic index, 3)) {ws' : va_W} (hw : ws.set q1 (a, .inl (c1, n, .inl f)) = ws')
    (kk : Sx p l e R s m args below meth c D cl A nL Q (pc + 3) lv st ws') : Sx p l e R s m args below meth c D cl A nL Q pc lv (.int (nI n) :: .int 0 :: .ref a :: .int 0 :: .ref a0 :: st) ws := by
  subst hw
  intro H locs ls hP hD hS hl
  have e0 : (0 : Int32).toNatClampNeg = 0 := by decide
  have en : (nI n).toNatClampNeg = n := nI_clamp hn
  refine va_copyi (R := R) B.1 B.2.1 (by rw [B.2.2.1, hl.1]) B.2.2.2.1 (B.2.2.2.2.1 _ hlink) (B.2.2.2.2.1 _ hnat) (B.2.2.2.2.1 _ hstat) (B.2.2.2.2.1 _ hini) B.2.2.2.2.2.1 hP hD hS q0 q1 t0 t0 ha0 ha1 ht0 ht1 rfl (by decide) (by decide) (nI_pos hn) (by rw [e0, en]; omega) (by rw [e0, en]; omega) (fun i _ => rfl) hframes hlocals hdg (fun H1 locs1 h1 h2 h3 => ?_)
  rw [e0, en] at h1 h2
  have hset : (ws.set q1 (a, .inl (c1, n, .inl (va_cpy f g 0 0 n))))[q1]? = some (a, .inl (c1, n, .inl (va_cpy f g 0 0 n))) := by
    rw [List.getElem?_set_self', ha1]; rfl
  have hh := s_ext (p := p) (l := l) (e := e) (R := R) (s := s) (m := m) (args := args) (below := below) (meth := meth) (c := c) (D := D) (cl := cl) (A := A) (nL := nL) (Q := Q) (pc := pc + 3) (lv := lv) (st := st) (ws := ws.set q1 (a, .inl (c1, n, .inl (va_cpy f g 0 0 n)))) q1 (f' := f) hset (fun j hj => by unfold va_cpy; rw [if_pos ⟨Nat.zero_le _, by omega⟩]; congr 1; omega) rfl (by rw [List.set_set]; exact kk)
  exact hh H1 locs1 ls h1 h2 h3 hl
theorem s_callNi (B : Bs p s m args meth c D cl tys A nL cc own) (hsc : sc D A s s.heap) {host : String} {post : Int32 → va_W → Prop} (hM : Ci l y (WW y bytes maxL (some rt)) rm D cl tys2 As sub post) (hlk : Cond.methodLinkNest own index y host ∈ nwl) (hsm : Cond.static y ∈ lw_gd) (hini : Cond.initialized y.cls ∈ lw_gd) (hco : Cond.code y bytes maxL (some rt) ∈ lw_gd) (hd : y.cls ≠ "java/lang/invoke/MethodHandle" ∧ y.cls ≠ "java/lang/invoke/VarHandle" ∧ (parseMethodDescriptor y.desc).map (fun d => d.parameters.length) = some n) (h0 : rm.cells = 0) (h1 : rm.slots = 0) (hR : rm.frames + 1 ≤ R.frames ∧ 8 + (maxL + 11) + rm.locals ≤ R.locals)
    (is ty : List Nat) (hC : is.map (fun i => ws[i]?) = sub.map some) (hnd : va_nd is = true) (hty : ty.filterMap (fun i => tys[i]?) = tys2) (hn : As.length = n) (hst : st0 = As.reverse ++ st) (hcat : (st.map fun v => v.category).sum ≤ 8) (hdg : decode cc pc = .ok (.invokestatic index, 3))
    (kk : ∀ (r : Int32) (u : va_W), post r u → Sx p l e R s m args below meth c D cl A nL Q (pc + 3) lv (.int r :: st) (va_rj ws is u)) : Sx p l e R s m args below meth c D cl A nL Q pc lv st0 ws := by
  intro H locs ls hP hD hS hl
  have hpre := cp_at (av := As) B hsc hP hD hS is ty hC hnd hty
  have hF := va_free (wc := sub) hD hS B.2.2.2.2.2.2.2 is hC
  have hG : GoodIn lw_gd (WW y bytes maxL (some rt)) := fun w hw => by
    rcases List.mem_cons.mp hw with rfl | hw
    · exact ⟨hco, good_of_word (tbl_good _ hco)⟩
    · exact ⟨hw, good_of_word (tbl_good _ hw)⟩
  subst hst
  refine va_calli (va_runSN (As := As) (rest := st) ⟨B.1, B.2.1, B.2.2.1, B.2.2.2.1, B.2.2.2.2.1⟩ (hM H.size) ⟨va_cnB n B.2.2.2.2.1 hG rfl h0 h1 (hsc.2.2.2.2.2.1 _ hlk) (B.2.2.2.2.1 _ hini) hd hR, B.2.2.2.2.1 _ hsm, trivial⟩ ⟨cp_blind, hpre⟩ rfl hn hl.1 rfl (lv_room hcat) hdg ⟨Nat.zero_le _, Nat.zero_le _⟩) hS (fun q _ h => hF q h) hF (fun r u t H1 locs1 ht hvm hpo hB hz hk hS1 => ?_)
  obtain ⟨hP1, hu⟩ := hB
  rw [ht] at hP1
  obtain ⟨g1, g2⟩ := rj_to hP hD hC hu hP1 hk
  exact kk r u hpo H1 locs1 ls g1 g2 hS1 hl
end SXE
/-! ===== String constants over Sx ===== -/
section SXS
variable {p : Program} {l : Launch} {e : Env} {R : Room} {s : State} {m : MethodId} {args : Array Value} {below : List Frame} {meth : Method} {c : Code} {Q : State → Prop} {D : va_G} {cl : List vw_C} {tys tys2 : List (ClassId × FieldType)} {A : Nat → Prop} {nL pc : Nat} {lv : List (Nat × Value)} {st st0 : List Value} {ws sub : va_W} {cc bytes : ByteArray} {own C : String} {y : MethodName} {maxL n index : Nat} {rt : FieldType} {rm : Room} {As : List Value}
theorem s_zretT (B : Bs p s m args meth c D cl tys A nL cc own) {post : Int32 → va_W → Prop} {a0 : List Nat} (hQ : MQ below (va_Qi post (BW D cl a0) A) args s 0 0 A = Q) {ty : FieldType} (hr : meth.sig.returnType = some ty) {r : Int32} (hdg : decode cc pc = .ok (.ireturn, 1)) (ha : ws.map Prod.fst = a0) (h01 : narrow ty (.int r) = .int r) (hp : post r ws) : Sx p l e R s m args below meth c D cl A nL Q pc lv [.int r] ws := by
  subst hQ
  exact fun H locs ls hP hD hS hl => W.zret B.1 B.2.1 hr h01 (fun t ht hW => ⟨⟨r, ws, rfl, hp, by rw [ht]; exact hP, ha⟩, hS.F ht⟩) hS.2.2 hdg (hlocks := B.2.2.2.2.2.2.1)
theorem s_ldcS (B : Bs p s m args meth c D cl tys A nL cc own) (hsc : sc D A s s.heap) (i : Nat) (hi : i < 13) (ho : own = "CrossBook$Teller") (hx : ixS.getD i 0 = index) (hdg : decode cc pc = .ok (.ldc index, 2))
    (k : Sx p l e R s m args below meth c D cl A nL Q (pc + 2) lv (.ref (D.2 100 i) :: st) ws) : Sx p l e R s m args below meth c D cl A nL Q pc lv st ws := by
  subst ho; subst hx
  exact fun H locs ls hP hD hS hl => va_ldcS B.1 B.2.1 B.2.2.2.1 (hsc.2.2.2.2.2.2.2.1 i hi) hdg (k H locs ls hP hD hS hl)
theorem s_getSv (B : Bs p s m args meth c D cl tys A nL cc own) (hsc : sc D A s s.heap) {i : Nat} (hi : i < 13) (hlink : Cond.fieldLink own index "java/lang/String" "value" "[B" ∈ lw_gd) (hdg : decode cc pc = .ok (.getfield index, 3))
    (k : Sx p l e R s m args below meth c D cl A nL Q (pc + 3) lv (.ref (D.2 101 i) :: st) ws) : Sx p l e R s m args below meth c D cl A nL Q pc lv (.ref (D.2 100 i) :: st) ws :=
  fun H locs ls hP hD hS hl => vk_getf B.1 B.2.1 (hsc.2.2.2.2.2.2.1.1 i hi).2.2.1 hS B.2.2.2.1 (B.2.2.2.2.1 _ hlink) (fun _ h => h) hdg (k H locs ls hP hD hS hl)
theorem s_getSc (B : Bs p s m args meth c D cl tys A nL cc own) (hsc : sc D A s s.heap) {i : Nat} (hi : i < 13) (hlink : Cond.fieldLink own index "java/lang/String" "coder" "B" ∈ lw_gd) (hdg : decode cc pc = .ok (.getfield index, 3))
    (k : Sx p l e R s m args below meth c D cl A nL Q (pc + 3) lv (.int 0 :: st) ws) : Sx p l e R s m args below meth c D cl A nL Q pc lv (.ref (D.2 100 i) :: st) ws :=
  fun H locs ls hP hD hS hl => vk_getf B.1 B.2.1 (hsc.2.2.2.2.2.2.1.1 i hi).2.1 hS B.2.2.2.1 (B.2.2.2.2.1 _ hlink) (fun _ h => h) hdg (k H locs ls hP hD hS hl)
theorem s_lenS (B : Bs p s m args meth c D cl tys A nL cc own) (hsc : sc D A s s.heap) {i : Nat} (hi : i < 13) (hdg : decode cc pc = .ok (.arraylength, 1))
    (k : Sx p l e R s m args below meth c D cl A nL Q (pc + 1) lv (.int (nI (lenS.getD i 0)) :: st) ws) : Sx p l e R s m args below meth c D cl A nL Q pc lv (.ref (D.2 101 i) :: st) ws :=
  fun H locs ls hP hD hS hl => va_tlen B.1 B.2.1 (hsc.2.2.2.2.2.2.1.1 i hi).2.2.2 hS rfl hdg (k H locs ls hP hD hS hl)
theorem s_byS (B : Bs p s m args meth c D cl tys A nL cc own) (hsc : sc D A s s.heap) {i k0 : Nat} (hi : i < 13) (hk : k0 < lenS.getD i 0) (hn : k0 < 2 ^ 31) (hn2 : lenS.getD i 0 < 2 ^ 31) (hdg : decode cc pc = .ok (.baload, 1))
    (k : Sx p l e R s m args below meth c D cl A nL Q (pc + 1) lv (.int ((bytS.getD i []).getD k0 0) :: st) ws) : Sx p l e R s m args below meth c D cl A nL Q pc lv (.int (nI k0) :: .ref (D.2 101 i) :: st) ws :=
  fun H locs ls hP hD hS hl => va_tb B.1 B.2.1 (hsc.2.2.2.2.2.2.1.1 i hi).2.2.2 hS (pk_in k0 (lenS.getD i 0) hk rfl hn2) (by show Value.int _ = _; rw [nI_clamp hn]) hdg (k H locs ls hP hD hS hl)
theorem s_getsC (B : Bs p s m args meth c D cl tys A nL cc own) (hsc : sc D A s s.heap) (hlink : Cond.fieldLink own index "java/lang/String" "COMPACT_STRINGS" "Z" ∈ lw_gd) (hdg : decode cc pc = .ok (.getstatic index, 3))
    (k : Sx p l e R s m args below meth c D cl A nL Q (pc + 3) lv (.int 1 :: st) ws) : Sx p l e R s m args below meth c D cl A nL Q pc lv st ws :=
  fun H locs ls hP hD hS hl => va_gets B.1 B.2.1 hsc.2.2.2.2.2.2.2.2.1 hS B.2.2.2.1 (B.2.2.2.2.1 _ hlink) (fun _ h => h) hdg (k H locs ls hP hD hS hl)
theorem s_getsF (B : Bs p s m args meth c D cl tys A nL cc own) (hsc : sc D A s s.heap) (hlink : Cond.fieldLink own index "jdk/internal/util/Preconditions" "SIOOBE_FORMATTER" "Ljava/util/function/BiFunction;" ∈ lw_gd) (hdg : decode cc pc = .ok (.getstatic index, 3))
    (k : ∀ v : Value, (v = .null ∨ ∃ t, v = .ref t) → Sx p l e R s m args below meth c D cl A nL Q (pc + 3) lv (v :: st) ws) : Sx p l e R s m args below meth c D cl A nL Q pc lv st ws := by
  rcases hsc.2.2.2.2.2.2.2.2.2.1 with hZ | ⟨t, hZ⟩
  · exact fun H locs ls hP hD hS hl => va_gets B.1 B.2.1 hZ hS B.2.2.2.1 (B.2.2.2.2.1 _ hlink) (fun _ h => h) hdg (k .null (Or.inl rfl) H locs ls hP hD hS hl)
  · exact fun H locs ls hP hD hS hl => va_gets B.1 B.2.1 hZ hS B.2.2.2.1 (B.2.2.2.2.1 _ hlink) (fun _ h => h) hdg (k (.ref t) (Or.inr ⟨t, rfl⟩) H locs ls hP hD hS hl)
/-- a call of a String constant's method -/
theorem s_callVK (B : Bs p s m args meth c D cl tys A nL cc own) (hsc : sc D A s s.heap) {i : Nat} (hi : i < 13) {post : Int32 → va_W → Prop} (hM : Ci l y (WW y bytes maxL (some rt)) rm D cl tys2 (.ref (D.2 100 i) :: As) sub post) (hT : GoodIn lw_gd (wsV own index "java/lang/String" y (WW y bytes maxL (some rt)))) (hd : y.cls = "java/lang/String" ∧ y.cls ≠ "java/lang/invoke/MethodHandle" ∧ y.cls ≠ "java/lang/invoke/VarHandle" ∧ (parseMethodDescriptor y.desc).map (fun d => d.parameters.length) = some n) (h0 : rm.cells = 0) (h1 : rm.slots = 0) (hR : rm.frames + 1 ≤ R.frames ∧ 8 + (maxL + 11) + rm.locals ≤ R.locals)
    (is ty : List Nat) (hC : is.map (fun i => ws[i]?) = sub.map some) (hnd : va_nd is = true) (hty : ty.filterMap (fun i => tys[i]?) = tys2) (hn : As.length = n) (hst : st0 = As.reverse ++ .ref (D.2 100 i) :: st) (hcat : (st.map fun v => v.category).sum ≤ 8) (hdg : decode cc pc = .ok (.invokevirtual index, 3))
    (kk : ∀ (r : Int32) (u : va_W), post r u → Sx p l e R s m args below meth c D cl A nL Q (pc + 3) lv (.int r :: st) (va_rj ws is u)) : Sx p l e R s m args below meth c D cl A nL Q pc lv st0 ws := by
  intro H locs ls hP hD hS hl
  have hpre := cp_at (av := .ref (D.2 100 i) :: As) B hsc hP hD hS is ty hC hnd hty
  have hF := va_free (wc := sub) hD hS B.2.2.2.2.2.2.2 is hC
  have hrec := vk_recv hsc.2.2.2.2.2.2.1 hi hS
  subst hst
  refine va_calli (va_runV (As := As) (rest := st) ⟨B.1, B.2.1, B.2.2.1, B.2.2.2.1, B.2.2.2.2.1⟩ (hM H.size) (cw_V B hT hd h0 h1 hR) ⟨cp_blind, hrec, hpre⟩ rfl hn hl.1 rfl (lv_room hcat) hdg ⟨Nat.zero_le _, Nat.zero_le _⟩) hS (fun q _ h => hF q h) hF (fun r u t H1 locs1 ht hvm hpo hB hz hk hS1 => ?_)
  obtain ⟨hP1, hu⟩ := hB
  rw [ht] at hP1
  obtain ⟨g1, g2⟩ := rj_to hP hD hC hu hP1 hk
  exact kk r u hpo H1 locs1 ls g1 g2 hS1 hl
theorem s_callSv (B : Bs p s m args meth c D cl tys A nL cc own) (hsc : sc D A s s.heap) {post : va_W → Prop} (hM : Cv l y (WW y bytes maxL none) rm D cl tys2 As sub post) (hT : GoodIn lw_gd (va_wsS own index y (WW y bytes maxL none))) (hd : y.cls ≠ "java/lang/invoke/MethodHandle" ∧ y.cls ≠ "java/lang/invoke/VarHandle" ∧ (parseMethodDescriptor y.desc).map (fun d => d.parameters.length) = some n) (h0 : rm.cells = 0) (h1 : rm.slots = 0) (hR : rm.frames + 1 ≤ R.frames ∧ 8 + (maxL + 11) + rm.locals ≤ R.locals)
    (is ty : List Nat) (hC : is.map (fun i => ws[i]?) = sub.map some) (hnd : va_nd is = true) (hty : ty.filterMap (fun i => tys[i]?) = tys2) (hn : As.length = n) (hst : st0 = As.reverse ++ st) (hcat : (st.map fun v => v.category).sum ≤ 8) (hdg : decode cc pc = .ok (.invokestatic index, 3))
    (kk : ∀ (u : va_W), post u → Sx p l e R s m args below meth c D cl A nL Q (pc + 3) lv st (va_rj ws is u)) : Sx p l e R s m args below meth c D cl A nL Q pc lv st0 ws := by
  intro H locs ls hP hD hS hl
  have hpre := cp_at (av := As) B hsc hP hD hS is ty hC hnd hty
  have hF := va_free (wc := sub) hD hS B.2.2.2.2.2.2.2 is hC
  subst hst
  refine va_callv (va_runS (As := As) (rest := st) ⟨B.1, B.2.1, B.2.2.1, B.2.2.2.1, B.2.2.2.2.1⟩ (hM H.size) (cw_S B hT hd h0 h1 hR) ⟨cp_blind, hpre⟩ rfl hn hl.1 rfl (lv_room hcat) hdg ⟨Nat.zero_le _, Nat.zero_le _⟩) hS (fun q _ h => hF q h) hF (fun u t H1 locs1 ht hvm hpo hB hz hk hS1 => ?_)
  obtain ⟨hP1, hu⟩ := hB
  rw [ht] at hP1
  obtain ⟨g1, g2⟩ := rj_to hP hD hC hu hP1 hk
  exact kk u hpo H1 locs1 ls g1 g2 hS1 hl
/-- a contract of a method that answers a String constant; the world stays -/
def Cs (l : Launch) (y : MethodName) (ws : List Cond) (rm : Room) (D : va_G) (cl : List vw_C) (tys : List (ClassId × FieldType)) (av : List Value) (cells : va_W) : Prop :=
  ∀ sz : Nat, Met l y ws rm (CP D cl tys av cells sz) (va_Qr (fun u : va_W => u = cells) (fun u a t => BW D cl (cells.map Prod.fst) u t ∧ ∃ i, i < 13 ∧ a = D.2 100 i) (va_A cells sz)) 0 0 (va_A cells sz)
theorem cs_in {l : Launch} {y : MethodName} {cc : ByteArray} {nL : Nat} {rt : FieldType} {rm : Room} {D : va_G} {cl : List vw_C} {tys : List (ClassId × FieldType)} {av : List Value} {cells : va_W} (hy : plainName y.cls = true) (hlen : (lg_sl av).length ≤ nL)
    (body : ∀ (p : Program) (e : Env) (s : State) (m : MethodId) (args : Array Value) (below : List Frame) (meth : Method) (c : Code) (A : Nat → Prop) (Q : State → Prop), MQ below (va_Qr (fun u : va_W => u = cells) (fun u a t => BW D cl (cells.map Prod.fst) u t ∧ ∃ i, i < 13 ∧ a = D.2 100 i) A) args s 0 0 A = Q → Bs p s m args meth c D cl tys A nL cc y.cls → meth.sig.returnType = some rt → sc D A s s.heap → Sx p l e rm s m args below meth c D cl A nL Q 0 (lv_args 0 av) [] cells) : Cs l y (WW y cc nL (some rt)) rm D cl tys av cells := by
  intro sz
  refine Met.ofW (cc := cc) (maxL := nL) (ret := some rt) hy rfl ?_
  intro p e s m args below meth c s₁ B hml hv
  obtain ⟨rfl, hsz, hP, hK, hD0, hsc⟩ := hv
  subst hsz
  have hts := atoms_spec (ws := WW y cc nL (some rt)) B.pre
  have hown := findClass_of_methodNamed B.named
  have hD := hD0.self (sz := s.heap.size)
  have hl := lv_entry av (n := nL) hlen
  rw [lg_entry_eq]
  exact body p e s m _ below meth c _ _ rfl ⟨B.exec, B.bytes, hml, hown, fun w hw => hts w (List.mem_cons_of_mem _ hw), hK, B.notSynchronized, fun q h => Or.inr h⟩ B.returns hsc s.heap [] _ hP hD va_S.rf hl
theorem s_callSs (B : Bs p s m args meth c D cl tys A nL cc own) (hsc : sc D A s s.heap) (hM : Cs l y (WW y bytes maxL (some rt)) rm D cl tys2 As sub) (hT : GoodIn lw_gd (va_wsS own index y (WW y bytes maxL (some rt)))) (hd : y.cls ≠ "java/lang/invoke/MethodHandle" ∧ y.cls ≠ "java/lang/invoke/VarHandle" ∧ (parseMethodDescriptor y.desc).map (fun d => d.parameters.length) = some n) (h0 : rm.cells = 0) (h1 : rm.slots = 0) (hR : rm.frames + 1 ≤ R.frames ∧ 8 + (maxL + 11) + rm.locals ≤ R.locals)
    (is ty : List Nat) (hC : is.map (fun i => ws[i]?) = sub.map some) (hnd : va_nd is = true) (hty : ty.filterMap (fun i => tys[i]?) = tys2) (hn : As.length = n) (hst : st0 = As.reverse ++ st) (hcat : (st.map fun v => v.category).sum ≤ 8) (hdg : decode cc pc = .ok (.invokestatic index, 3))
    (kk : ∀ (i : Nat) (_ : i < 13), Sx p l e R s m args below meth c D cl A nL Q (pc + 3) lv (.ref (D.2 100 i) :: st) (va_rj ws is sub)) : Sx p l e R s m args below meth c D cl A nL Q pc lv st0 ws := by
  intro H locs ls hP hD hS hl
  have hpre := cp_at (av := As) B hsc hP hD hS is ty hC hnd hty
  have hF := va_free (wc := sub) hD hS B.2.2.2.2.2.2.2 is hC
  subst hst
  refine va_callr (va_runS (As := As) (rest := st) ⟨B.1, B.2.1, B.2.2.1, B.2.2.2.1, B.2.2.2.2.1⟩ (hM H.size) (cw_S B hT hd h0 h1 hR) ⟨cp_blind, hpre⟩ rfl hn hl.1 rfl (lv_room hcat) hdg ⟨Nat.zero_le _, Nat.zero_le _⟩) hS (fun q _ h => hF q h) hF (fun u ra t H1 locs1 ht hvm hpo hB hz hk hS1 => ?_)
  obtain ⟨⟨hP1, hu⟩, i, hi, rfl⟩ := hB
  subst hpo
  rw [ht] at hP1
  obtain ⟨g1, g2⟩ := rj_to hP hD hC hu hP1 hk
  exact kk i hi H1 locs1 ls g1 g2 hS1 hl
theorem s_aretS (B : Bs p s m args meth c D cl tys A nL cc own) (hQ : MQ below (va_Qr (fun u : va_W => u = ws) (fun u a t => BW D cl (ws.map Prod.fst) u t ∧ ∃ i, i < 13 ∧ a = D.2 100 i) A) args s 0 0 A = Q) {ty : FieldType} (hr : meth.sig.returnType = some ty) (hty : (∃ n, ty = .object n) ∨ ∃ t, ty = .array t) {i : Nat} (hi : i < 13) (hdg : decode cc pc = .ok (.areturn, 1)) : Sx p l e R s m args below meth c D cl A nL Q pc lv [.ref (D.2 100 i)] ws := by
  subst hQ
  exact fun H locs ls hP hD hS hl => W.aret B.1 B.2.1 hr hty (Or.inr ⟨_, rfl⟩) (fun t ht hW => ⟨⟨ws, _, rfl, rfl, ⟨by rw [ht]; exact hP, rfl⟩, i, hi, rfl⟩, hS.F ht⟩) hS.2.2 hdg (hlocks := B.2.2.2.2.2.2.1)
end SXS
/-! ===== Nx: as Sx, where cells are made ===== -/
def Nx (p : Program) (l : Launch) (e : Env) (R : Room) (s : State) (m : MethodId) (args : Array Value) (below : List Frame) (meth : Method) (c : Code) (D : va_G) (cl : List vw_C) (A : Nat → Prop) (nL : Nat) (mc ms : Nat) (Q : State → Prop) (pc : Nat) (lv : List (Nat × Value)) (st : List Value) (ws : va_W) : Prop :=
  ∀ (H : Heap) (locs : List Loc) (ls : Array Slot), va_P D cl ws H → va_D A ws → va_S A s.heap H locs → lv_has ls nL lv → W p l e R s m args below meth c H locs mc ms Q (F0 m pc ls st)
def BN (D : va_G) (cl : List vw_C) (A : Nat → Prop) (u : va_W) (t : State) : Prop := va_P D cl u t.heap ∧ va_D A u
/-- a constructor's contract: it makes mc cells of ms slots -/
def Cn (l : Launch) (y : MethodName) (ws : List Cond) (rm : Room) (D : va_G) (cl : List vw_C) (tys : List (ClassId × FieldType)) (av : List Value) (cells : va_W) (mc ms : Nat) (post : va_W → Prop) : Prop :=
  ∀ sz : Nat, Met l y ws rm (CP D cl tys av cells sz) (va_Qv post (BN D cl (va_A cells sz)) (va_A cells sz)) mc ms (va_A cells sz)
theorem ra_inj {U : State} {c1 c2 : ClassId} {ty : FieldType} (h1 : va_RA U c1 ty) (h2 : va_RA U c2 ty) : c1 = c2 := by
  cases ty with
  | object C => obtain ⟨_, _, _, _, _, g1⟩ := h1; obtain ⟨_, _, _, _, _, g2⟩ := h2; exact Option.some.inj (g1.symm.trans g2)
  | _ => exact Option.some.inj (h1.symm.trans h2)
section SXN
variable {p : Program} {l : Launch} {e : Env} {R : Room} {s : State} {m : MethodId} {args : Array Value} {below : List Frame} {meth : Method} {c : Code} {Q : State → Prop} {D : va_G} {cl : List vw_C} {tys tys2 : List (ClassId × FieldType)} {A : Nat → Prop} {nL pc mc ms mc2 ms2 : Nat} {lv : List (Nat × Value)} {st st0 : List Value} {ws wr sub : va_W} {cc bytes : ByteArray} {own C : String} {y : MethodName} {maxL n index : Nat} {rt : FieldType} {rm : Room} {As : List Value}
set_option maxHeartbeats 1000000 in
theorem n_iconst (B : Bs p s m args meth c D cl tys A nL cc own) {n : Int} {v : Int32} (hdg : decode cc pc = .ok (.iconst n, 1)) (hv : Int32.ofInt n = v) (k : Nx p l e R s m args below meth c D cl A nL mc ms Q (pc + 1) lv (.int v :: st) ws) : Nx p l e R s m args below meth c D cl A nL mc ms Q pc lv (st) ws := fun H locs ls hP hD hS hl9 => lv_iconst B.1 B.2.1 hdg hv (k H locs ls hP hD hS hl9)
set_option maxHeartbeats 1000000 in
theorem n_bipush (B : Bs p s m args meth c D cl tys A nL cc own) {n : Int} {v : Int32} (hdg : decode cc pc = .ok (.bipush n, 2)) (hv : (Int8.ofInt n).toInt32 = v) (k : Nx p l e R s m args below meth c D cl A nL mc ms Q (pc + 2) lv (.int v :: st) ws) : Nx p l e R s m args below meth c D cl A nL mc ms Q pc lv (st) ws := fun H locs ls hP hD hS hl9 => lv_bipush B.1 B.2.1 hdg hv (k H locs ls hP hD hS hl9)
set_option maxHeartbeats 1000000 in
theorem n_sipush (B : Bs p s m args meth c D cl tys A nL cc own) {n : Int} {v : Int32} (hdg : decode cc pc = .ok (.sipush n, 3)) (hv : (Int16.ofInt n).toInt32 = v) (k : Nx p l e R s m args below meth c D cl A nL mc ms Q (pc + 3) lv (.int v :: st) ws) : Nx p l e R s m args below meth c D cl A nL mc ms Q pc lv (st) ws := fun H locs ls hP hD hS hl9 => lv_sipush B.1 B.2.1 hdg hv (k H locs ls hP hD hS hl9)
set_option maxHeartbeats 1000000 in
theorem n_iload_n (B : Bs p s m args meth c D cl tys A nL cc own) {k : Fin 4} {i : Nat} {x : Int32} (hdg : decode cc pc = .ok (.iload_n k, 1)) (hi : (k : Nat) = i) (j : Nat) (hj : lv[j]? = some (i, (.int x))) (k : Nx p l e R s m args below meth c D cl A nL mc ms Q (pc + 1) lv (.int x :: st) ws) : Nx p l e R s m args below meth c D cl A nL mc ms Q pc lv (st) ws := fun H locs ls hP hD hS hl9 => lv_iload_n B.1 B.2.1 hdg hi (lv_at hl9 j hj) (k H locs ls hP hD hS hl9)
set_option maxHeartbeats 1000000 in
theorem n_iload (B : Bs p s m args meth c D cl tys A nL cc own) {i : Nat} {x : Int32} (hdg : decode cc pc = .ok (.iload i, 2)) (j : Nat) (hj : lv[j]? = some (i, (.int x))) (k : Nx p l e R s m args below meth c D cl A nL mc ms Q (pc + 2) lv (.int x :: st) ws) : Nx p l e R s m args below meth c D cl A nL mc ms Q pc lv (st) ws := fun H locs ls hP hD hS hl9 => lv_iload B.1 B.2.1 hdg (lv_at hl9 j hj) (k H locs ls hP hD hS hl9)
set_option maxHeartbeats 1000000 in
theorem n_aload_n (B : Bs p s m args meth c D cl tys A nL cc own) {k : Fin 4} {i : Nat} {x : Nat} (hdg : decode cc pc = .ok (.aload_n k, 1)) (hi : (k : Nat) = i) (j : Nat) (hj : lv[j]? = some (i, (.ref x))) (k : Nx p l e R s m args below meth c D cl A nL mc ms Q (pc + 1) lv (.ref x :: st) ws) : Nx p l e R s m args below meth c D cl A nL mc ms Q pc lv (st) ws := fun H locs ls hP hD hS hl9 => lv_aload_n B.1 B.2.1 hdg hi (lv_at hl9 j hj) (k H locs ls hP hD hS hl9)
set_option maxHeartbeats 1000000 in
theorem n_aload (B : Bs p s m args meth c D cl tys A nL cc own) {i : Nat} {x : Nat} (hdg : decode cc pc = .ok (.aload i, 2)) (j : Nat) (hj : lv[j]? = some (i, (.ref x))) (k : Nx p l e R s m args below meth c D cl A nL mc ms Q (pc + 2) lv (.ref x :: st) ws) : Nx p l e R s m args below meth c D cl A nL mc ms Q pc lv (st) ws := fun H locs ls hP hD hS hl9 => lv_aload B.1 B.2.1 hdg (lv_at hl9 j hj) (k H locs ls hP hD hS hl9)
set_option maxHeartbeats 1000000 in
theorem n_istore_n (B : Bs p s m args meth c D cl tys A nL cc own) {k : Fin 4} {i : Nat} {x : Int32} {lv' : List (Nat × Value)} (hdg : decode cc pc = .ok (.istore_n k, 1)) (hi : (k : Nat) = i) (hn : i < nL) (hl : (i, Value.int x) :: lv.filter (fun q => !(q.1 == i) && !(q.1 + 1 == i && q.2.category == 2)) = lv') (kk : Nx p l e R s m args below meth c D cl A nL mc ms Q (pc + 1) lv' st ws) : Nx p l e R s m args below meth c D cl A nL mc ms Q pc lv (.int x :: st) ws := fun H locs ls hP hD hS hl9 => lv_istore_n B.1 B.2.1 hdg hi hl9 hn hl (fun ls' hl' => kk H locs ls' hP hD hS hl')
set_option maxHeartbeats 1000000 in
theorem n_istore (B : Bs p s m args meth c D cl tys A nL cc own) {i : Nat} {x : Int32} {lv' : List (Nat × Value)} (hdg : decode cc pc = .ok (.istore i, 2)) (hn : i < nL) (hl : (i, Value.int x) :: lv.filter (fun q => !(q.1 == i) && !(q.1 + 1 == i && q.2.category == 2)) = lv') (kk : Nx p l e R s m args below meth c D cl A nL mc ms Q (pc + 2) lv' st ws) : Nx p l e R s m args below meth c D cl A nL mc ms Q pc lv (.int x :: st) ws := fun H locs ls hP hD hS hl9 => lv_istore B.1 B.2.1 hdg hl9 hn hl (fun ls' hl' => kk H locs ls' hP hD hS hl')
set_option maxHeartbeats 1000000 in
theorem n_iinc (B : Bs p s m args meth c D cl tys A nL cc own) {i k : Nat} {n : Int} {x v : Int32} {lv' : List (Nat × Value)} (hdg : decode cc pc = .ok (.iinc i n, 3)) (hk : lv[k]? = some (i, .int x)) (hv : x + Int32.ofInt n = v) (hn : i < nL) (hl : (i, Value.int v) :: lv.filter (fun q => !(q.1 == i) && !(q.1 + 1 == i && q.2.category == 2)) = lv') (kk : Nx p l e R s m args below meth c D cl A nL mc ms Q (pc + 3) lv' st ws) : Nx p l e R s m args below meth c D cl A nL mc ms Q pc lv st ws := fun H locs ls hP hD hS hl9 => lv_iinc B.1 B.2.1 hdg hl9 hk hv hn hl (fun ls' hl' => kk H locs ls' hP hD hS hl')
set_option maxHeartbeats 1000000 in
theorem n_dup (B : Bs p s m args meth c D cl tys A nL cc own) {va : Value} (hdg : decode cc pc = .ok (.dup, 1)) (hva : va.category = 1) (k : Nx p l e R s m args below meth c D cl A nL mc ms Q (pc + 1) lv (va :: va :: st) ws) : Nx p l e R s m args below meth c D cl A nL mc ms Q pc lv (va :: st) ws := fun H locs ls hP hD hS hl9 => lv_dup B.1 B.2.1 hdg hva (k H locs ls hP hD hS hl9)
set_option maxHeartbeats 1000000 in
theorem n_pop (B : Bs p s m args meth c D cl tys A nL cc own) {va : Value} (hdg : decode cc pc = .ok (.pop, 1)) (hva : va.category = 1) (k : Nx p l e R s m args below meth c D cl A nL mc ms Q (pc + 1) lv (st) ws) : Nx p l e R s m args below meth c D cl A nL mc ms Q pc lv (va :: st) ws := fun H locs ls hP hD hS hl9 => lv_pop B.1 B.2.1 hdg hva (k H locs ls hP hD hS hl9)
set_option maxHeartbeats 1000000 in
theorem n_icmp_ge (B : Bs p s m args meth c D cl tys A nL cc own) {x y : Int32} {off : Int} {tgt : Nat} (hdg : decode cc pc = .ok (.if_icmp .ge off, 3)) (ht : (pc : Int) + off = (tgt : Int)) (kt : y ≤ x → Nx p l e R s m args below meth c D cl A nL mc ms Q tgt lv st ws) (kf : ¬ y ≤ x → Nx p l e R s m args below meth c D cl A nL mc ms Q (pc + 3) lv st ws) : Nx p l e R s m args below meth c D cl A nL mc ms Q pc lv (.int y :: .int x :: st) ws := fun H locs ls hP hD hS hl9 => lv_icmp_ge B.1 B.2.1 hdg ht (fun h => kt h H locs ls hP hD hS hl9) (fun h => kf h H locs ls hP hD hS hl9)
set_option maxHeartbeats 1000000 in
theorem n_goto (B : Bs p s m args meth c D cl tys A nL cc own) {off : Int} {tgt : Nat} (hdg : decode cc pc = .ok (.goto off, 3)) (ht : (pc : Int) + off = (tgt : Int)) (k : Nx p l e R s m args below meth c D cl A nL mc ms Q tgt lv st ws) : Nx p l e R s m args below meth c D cl A nL mc ms Q pc lv st ws := fun H locs ls hP hD hS hl9 => lv_goto B.1 B.2.1 hdg ht (k H locs ls hP hD hS hl9)
theorem n_ws {ws' : va_W} (h : ws = ws') (k : Nx p l e R s m args below meth c D cl A nL mc ms Q pc lv st ws') : Nx p l e R s m args below meth c D cl A nL mc ms Q pc lv st ws := h ▸ k
theorem n_lve {lv' : List (Nat × Value)} (h : lv = lv') (k : Nx p l e R s m args below meth c D cl A nL mc ms Q pc lv' st ws) : Nx p l e R s m args below meth c D cl A nL mc ms Q pc lv st ws := h ▸ k
theorem n_widen (h1 : mc ≤ mc2) (h2 : ms ≤ ms2) (k : Nx p l e R s m args below meth c D cl A nL mc2 ms2 Q pc lv st ws) : Nx p l e R s m args below meth c D cl A nL mc ms Q pc lv st ws := fun H locs ls hP hD hS hl => W.widen h1 h2 (k H locs ls hP hD hS hl)
theorem n_objInit (B : Bs p s m args meth c D cl tys A nL cc own) (hlink : Cond.methodLink own index objectInit ∈ lw_gd) (hdg : decode cc pc = .ok (.invokespecial index, 3)) {a : Nat} (hcat : (st.map fun v => v.category).sum ≤ 8) (hfr : 1 ≤ R.frames) (hlo : 20 ≤ R.locals)
    (k : Nx p l e R s m args below meth c D cl A nL mc ms Q (pc + 3) lv st ws) : Nx p l e R s m args below meth c D cl A nL mc ms Q pc lv (.ref a :: st) ws :=
  fun H locs ls hP hD hS hl => W.objInit B.1 B.2.1 B.2.2.2.1 (B.2.2.2.2.1 _ hlink) (B.2.2.2.2.1 _ im_objectInit) (B.2.2.2.2.1 _ co_objectInit) rfl (by rw [B.2.2.1]; exact hl.1) rfl hdg hfr (by show 2 * 0 + _ + 12 ≤ _; omega) (k H locs ls hP hD hS hl)
theorem n_newa (B : Bs p s m args meth c D cl tys A nL cc own) {atype : ArrayType} {ty : FieldType} (harr : Cond.arrayClass ty ∈ lw_gd) (hty : newarray.typeOf atype = ty) (t0 : Nat) {cT : ClassId} (ht : tys[t0]? = some (cT, ty)) {nn : Int32} {N' : Nat} {a0 : vp_A} (ha : ∀ cA : ClassId, vp_cell cA a0 = arrV cA N' (fun _ => defaultValue ty)) (hn : ¬ nn < 0) (hN : nn.toNatClampNeg = N') (hbytes : N' * componentBytes ty ≤ 536870912) (hcells : mc + 1 ≤ R.cells) (hslots : ms + N' ≤ R.slots) (hdg : decode cc pc = .ok (.newarray atype, 2))
    (kk : ∀ q : Nat, Nx p l e R s m args below meth c D cl A nL (mc + 1) (ms + N') Q (pc + 2) lv (.ref q :: st) (ws ++ [(q, .inl (cT, a0))])) : Nx p l e R s m args below meth c D cl A nL mc ms Q pc lv (.int nn :: st) ws := by
  intro H locs ls hP hD hS hl
  subst hty
  refine va_newa B.1 B.2.1 (B.2.2.2.2.1 _ harr) rfl B.2.2.2.2.2.1 hP hD hS B.2.2.2.2.2.2.2 ha hn hN hbytes hcells hslots hdg (fun q cA H1 hK1 hP1 hD1 hS1 => ?_)
  have h1 := (hK1.2 tys.length (cA, newarray.typeOf atype) (by simp)).2
  have h2 := (B.2.2.2.2.2.1.2 t0 _ ht).2
  have e : cA = cT := ra_inj h1 h2
  subst e
  exact kk q H1 locs ls hP1 hD1 hS1 hl
theorem n_newq (B : Bs p s m args meth c D cl tys A nL cc own) (hcl : Cond.classLink own index C ∈ lw_gd) (hover : va_AO C s) (t0 : Nat) {cT : ClassId} (ht : tys[t0]? = some (cT, .object C)) {nn : Int32} {N' : Nat} (hn : ¬ nn < 0) (hN : nn.toNatClampNeg = N') (hbytes : N' * 4 ≤ 536870912) (hcells : mc + 1 ≤ R.cells) (hslots : ms + N' ≤ R.slots) (hdg : decode cc pc = .ok (.anewarray index, 3))
    (kk : ∀ q : Nat, Nx p l e R s m args below meth c D cl A nL (mc + 1) (ms + N') Q (pc + 3) lv (.ref q :: st) (ws ++ [(q, .inl (cT, N', .inr (.inr (.inr (.inr (fun _ => none))))))])) : Nx p l e R s m args below meth c D cl A nL mc ms Q pc lv (.int nn :: st) ws := by
  intro H locs ls hP hD hS hl
  refine va_newq B.1 B.2.1 B.2.2.2.1 (B.2.2.2.2.1 _ hcl) hover B.2.2.2.2.2.1 hP hD hS B.2.2.2.2.2.2.2 hn hN hbytes hcells hslots hdg (fun q cA H1 hK1 hP1 hD1 hS1 => ?_)
  have h1 := (hK1.2 tys.length (cA, .object C) (by simp)).2
  have h2 := (B.2.2.2.2.2.1.2 t0 _ ht).2
  have e : cA = cT := ra_inj h1 h2
  subst e
  exact kk q H1 locs ls hP1 hD1 hS1 hl
theorem n_new (B : Bs p s m args meth c D cl tys A nL cc own) {T : u_T} {N ci : Nat} (hin : ∀ w ∈ u_ws C T N, w ∈ lw_gd) {ty0 : Nat → FieldType} (hty : ∀ k, k < N → parseFieldDescriptor (T k).2.2.1 = some (ty0 k)) (hcl : Cond.classLink own index C ∈ lw_gd) (hinst : Cond.instantiable C N ∈ lw_gd) (hini : Cond.initialized C ∈ lw_gd) (hc : cl[ci]? = some (C, T, N)) {fs : List Value} (hfs : ∀ j, j < N → defaultValue (ty0 j) = vp_V fs j) (hcells : mc + 1 ≤ R.cells) (hslots : ms + N ≤ R.slots) (hdg : decode cc pc = .ok (.new index, 3))
    (kk : ∀ q : Nat, Nx p l e R s m args below meth c D cl A nL (mc + 1) (ms + N) Q (pc + 3) lv (.ref q :: st) (ws ++ [(q, .inr (ci, fs))])) : Nx p l e R s m args below meth c D cl A nL mc ms Q pc lv st ws :=
  fun H locs ls hP hD hS hl => va_new B.1 B.2.1 B.2.2.2.2.1 hin ty0 hty B.2.2.2.1 (B.2.2.2.2.1 _ hcl) (B.2.2.2.2.1 _ hinst) (B.2.2.2.2.1 _ hini) B.2.2.2.2.2.1 hP hD hS B.2.2.2.2.2.2.2 hc hfs hcells hslots hdg (fun q H1 h1 h2 h3 => kk q H1 locs ls h1 h2 h3 hl)
theorem n_get (B : Bs p s m args meth c D cl tys A nL cc own) {T : u_T} {N ci a : Nat} (hin : ∀ w ∈ u_ws C T N, w ∈ lw_gd) (q0 : Nat) {fs : List Value} (he : ws[q0]? = some (a, .inr (ci, fs))) (hc : cl[ci]? = some (C, T, N)) (k : Nat) (hk : k < N) (hlink : Cond.fieldLink own index C (T k).2.1 (T k).2.2.1 ∈ lw_gd) (hr : (T k).1 = C) {v : Value} (hv : fs[k]? = some v) (hdg : decode cc pc = .ok (.getfield index, 3))
    (kk : Nx p l e R s m args below meth c D cl A nL mc ms Q (pc + 3) lv (v :: st) ws) : Nx p l e R s m args below meth c D cl A nL mc ms Q pc lv (.ref a :: st) ws :=
  fun H locs ls hP hD hS hl => va_get B.1 B.2.1 B.2.2.2.2.1 hin B.2.2.2.1 B.2.2.2.2.2.1 hP q0 he hc k hk (B.2.2.2.2.1 _ hlink) (fun x h => by rw [← hr]; exact h) hv hdg (kk H locs ls hP hD hS hl)
theorem n_put (B : Bs p s m args meth c D cl tys A nL cc own) {T : u_T} {N ci a : Nat} (hin : ∀ w ∈ u_ws C T N, w ∈ lw_gd) {ty0 : Nat → FieldType} (hty : ∀ k, k < N → parseFieldDescriptor (T k).2.2.1 = some (ty0 k)) (hnm : ∀ a, a < N → ∀ b, b < N → a ≠ b → (T a).2.1 ≠ (T b).2.1) (q0 : Nat) {fs : List Value} (he : ws[q0]? = some (a, .inr (ci, fs))) (hc : cl[ci]? = some (C, T, N)) (k : Nat) (hk : k < N) (hlink : Cond.fieldLink own index C (T k).2.1 (T k).2.2.1 ∈ lw_gd) (hr : (T k).1 = C) (hfin : (T k).2.2.2 = false) {v : Value} (hn : narrow (ty0 k) v = v) (hfit : fits (ty0 k) v = true) (hl0 : k < fs.length) {ws' : va_W} (hw : ws.set q0 (a, .inr (ci, fs.set k v)) = ws') (hdg : decode cc pc = .ok (.putfield index, 3))
    (kk : Nx p l e R s m args below meth c D cl A nL mc ms Q (pc + 3) lv st ws') : Nx p l e R s m args below meth c D cl A nL mc ms Q pc lv (v :: .ref a :: st) ws :=
  fun H locs ls hP hD hS hl => va_put B.1 B.2.1 B.2.2.2.2.1 hin ty0 hty hnm B.2.2.2.1 B.2.2.2.2.2.1 hP hD hS q0 he hc k hk (B.2.2.2.2.1 _ hlink) (fun x h => by rw [← hr]; exact h) hfin (hty k hk) hn hfit hl0 hdg (fun H1 locs1 h1 h2 h3 => by subst hw; exact kk H1 locs1 ls h1 h2 h3 hl)
theorem n_putF (B : Bs p s m args meth c D cl tys A nL cc own) (hin2 : meth.name = "<init>") {T : u_T} {N ci a : Nat} (hin : ∀ w ∈ u_ws C T N, w ∈ lw_gd) {ty0 : Nat → FieldType} (hty : ∀ k, k < N → parseFieldDescriptor (T k).2.2.1 = some (ty0 k)) (hnm : ∀ a, a < N → ∀ b, b < N → a ≠ b → (T a).2.1 ≠ (T b).2.1) (q0 : Nat) {fs : List Value} (he : ws[q0]? = some (a, .inr (ci, fs))) (hc : cl[ci]? = some (C, T, N)) (k : Nat) (hk : k < N) (hlink : Cond.fieldLink own index C (T k).2.1 (T k).2.2.1 ∈ lw_gd) (hr : (T k).1 = C) (hfin : (T k).2.2.2 = true) (hdecl : (T k).1 = own) {v : Value} (hn : narrow (ty0 k) v = v) (hfit : fits (ty0 k) v = true) (hl0 : k < fs.length) {ws' : va_W} (hw : ws.set q0 (a, .inr (ci, fs.set k v)) = ws') (hdg : decode cc pc = .ok (.putfield index, 3))
    (kk : Nx p l e R s m args below meth c D cl A nL mc ms Q (pc + 3) lv st ws') : Nx p l e R s m args below meth c D cl A nL mc ms Q pc lv (v :: .ref a :: st) ws :=
  fun H locs ls hP hD hS hl => va_putF B.1 B.2.1 B.2.2.2.2.1 hin ty0 hty hnm B.2.2.2.1 B.2.2.2.2.2.1 hP hD hS q0 he hc k hk (B.2.2.2.2.1 _ hlink) (fun x h => by rw [← hr]; exact h) hfin hin2 hdecl (hty k hk) hn hfit hl0 hdg (fun H1 locs1 h1 h2 h3 => by subst hw; exact kk H1 locs1 ls h1 h2 h3 hl)
theorem n_iast (B : Bs p s m args meth c D cl tys A nL cc own) (q0 t0 : Nat) {a : Nat} {cA : ClassId} {n : Nat} {f : Nat → Int32} (ha : ws[q0]? = some (a, .inl (cA, n, .inl f))) (ht : tys[t0]? = some (cA, .int)) {i x : Int32} {ws' : va_W} (hw : ws.set q0 (a, .inl (cA, n, .inl (upd f i.toNatClampNeg x))) = ws') (hdg : decode cc pc = .ok (.iastore, 1)) (hin : vp_in i n)
    (kk : Nx p l e R s m args below meth c D cl A nL mc ms Q (pc + 1) lv st ws') : Nx p l e R s m args below meth c D cl A nL mc ms Q pc lv (.int x :: .int i :: .ref a :: st) ws :=
  fun H locs ls hP hD hS hl => va_iast B.1 B.2.1 B.2.2.2.2.2.1 hP hD hS q0 t0 ha ht hin hdg (fun H1 locs1 h1 h2 h3 => by subst hw; exact kk H1 locs1 ls h1 h2 h3 hl)
theorem n_astq (B : Bs p s m args meth c D cl tys A nL cc own) (q0 t0 qk ci : Nat) {a v : Nat} {cA : ClassId} {r : vw_C} {n : Nat} {vs : List Value} {f : Nat → Option Nat} (ha : ws[q0]? = some (a, .inl (cA, n, .inr (.inr (.inr (.inr f)))))) (ht : tys[t0]? = some (cA, .object r.1)) (hv : ws[qk]? = some (v, .inr (ci, vs))) (hc : cl[ci]? = some r) {i : Int32} (hin : vp_in i n) {ws' : va_W} (hw : ws.set q0 (a, .inl (cA, n, .inr (.inr (.inr (.inr (va_up f i.toNatClampNeg (some v))))))) = ws') (hdg : decode cc pc = .ok (.aastore, 1))
    (kk : Nx p l e R s m args below meth c D cl A nL mc ms Q (pc + 1) lv st ws') : Nx p l e R s m args below meth c D cl A nL mc ms Q pc lv (.ref v :: .int i :: .ref a :: st) ws :=
  fun H locs ls hP hD hS hl => va_astq B.1 B.2.1 B.2.2.2.2.2.1 hP hD hS q0 t0 qk ci ha ht hv hc hin hdg (fun H1 locs1 h1 h2 h3 => by subst hw; exact kk H1 locs1 ls h1 h2 h3 hl)
theorem n_extQ (q0 : Nat) {a : Nat} {cA : ClassId} {n : Nat} {f f' : Nat → Option Nat} (ha : ws[q0]? = some (a, .inl (cA, n, .inr (.inr (.inr (.inr f)))))) (h : ∀ j, j < n → f j = f' j) {ws' : va_W} (hw : ws.set q0 (a, .inl (cA, n, .inr (.inr (.inr (.inr f'))))) = ws')
    (k : Nx p l e R s m args below meth c D cl A nL mc ms Q pc lv st ws') : Nx p l e R s m args below meth c D cl A nL mc ms Q pc lv st ws := by
  subst hw
  intro H locs ls hP hD hS hl
  refine k H locs ls (hP.set1 ha (fun h1 => ?_)) (hD.set1 ha) hS hl
  have h2 : H[a]? = some (vp_cell cA (n, .inr (.inr (.inr (.inr f))))) := h1
  show H[a]? = some (vp_cell cA (n, .inr (.inr (.inr (.inr f')))))
  rw [h2]
  unfold vp_cell
  exact congrArg some (arrV_ext (fun j hj => by rw [h j hj]))
theorem n_getsN (B : Bs p s m args meth c D cl tys A nL cc own) {n host : String} {N : Nat} {f : Nat → Int32} (hs : sc_1 C n N f A s s.heap) {X : Prop} (hnw : nw s ∧ X) (hlink : Cond.fieldLinkNest own index C n "[I" host ∈ nwl) (hdg : decode cc pc = .ok (.getstatic index, 3))
    (kk : ∀ t : Nat, va_T .int t N (fun j => .int (f j)) A s s.heap → Nx p l e R s m args below meth c D cl A nL mc ms Q (pc + 3) lv (.ref t :: st) ws) : Nx p l e R s m args below meth c D cl A nL mc ms Q pc lv st ws := by
  obtain ⟨t, hZ, hT⟩ := hs
  exact fun H locs ls hP hD hS hl => va_getsN B.1 B.2.1 hZ hS B.2.2.2.1 (hnw.1.use hlink _) (fun _ h => h) hdg (kk t hT H locs ls hP hD hS hl)
/-- System.arraycopy of a static row of ints onto a cell -/
theorem n_copyT (B : Bs p s m args meth c D cl tys A nL cc own) (hlink : Cond.methodLink own index arraycopyName ∈ lw_gd) (hnat : Cond.native arraycopyName ∈ lw_gd) (hstat : Cond.static arraycopyName ∈ lw_gd) (hini : Cond.initialized "java/lang/System" ∈ lw_gd) {b0 n0 a : Nat} {f : Nat → Int32} (hX : va_T .int b0 n0 (fun j => .int (f j)) A s s.heap) (q1 t1 : Nat) {c1 : ClassId} {n1 : Nat} {g : Nat → Int32} (ha1 : ws[q1]? = some (a, .inl (c1, n1, .inl g))) (ht1 : tys[t1]? = some (c1, .int))
    {sp dp n : Int32} (h1 : ¬ sp < 0) (h2 : ¬ dp < 0) (h3 : ¬ n < 0) (h4 : sp.toNatClampNeg + n.toNatClampNeg ≤ n0) (h5 : dp.toNatClampNeg + n.toNatClampNeg ≤ n1)
    (hframes : 1 ≤ R.frames) (hlocals : (st.map fun v => v.category).sum + (nativeFrameWords "java/lang/System" "arraycopy" 5 + 11) ≤ R.locals) (hdg : decode cc pc = .ok (.invokestatic index, 3))
    (kk : Nx p l e R s m args below meth c D cl A nL mc ms Q (pc + 3) lv st (ws.set q1 (a, .inl (c1, n1, .inl (va_cpy f g sp.toNatClampNeg dp.toNatClampNeg n.toNatClampNeg))))) : Nx p l e R s m args below meth c D cl A nL mc ms Q pc lv (.int n :: .int dp :: .ref a :: .int sp :: .ref b0 :: st) ws := by
  intro H locs ls hP hD hS hl
  have nn : ∀ z : Int32, ¬ z < 0 → z.toInt = (z.toNatClampNeg : Int) := by
    intro z hz
    have hz0 : (0 : Int) ≤ z.toInt := by
      have := Int32.not_lt.mp hz
      simpa using Int32.le_iff_toInt_le.mp this
    show z.toInt = ((z.toInt.toNat : Nat) : Int)
    omega
  intro T hT X
  obtain ⟨scr, hs1, hs2, hs3, hs4, -, hs5, hs7⟩ := hX
  have hc0 : H[b0]? = some scr := by rw [hS.2.1 b0 (Array.getElem?_eq_some_iff.mp hs1).1 hs7]; exact hs1
  have hc1 : H[a]? = some (vp_cell c1 (n1, .inl g)) := hP q1 _ ha1
  obtain ⟨hs6, k0, hk0, cm0, hkk0⟩ := hs2
  obtain ⟨-, k1, hk1, cm1, hkk1⟩ := (B.2.2.2.2.2.1.2 t1 _ ht1).1 n1 (fun j => .int (g j))
  obtain ⟨vm', X', step⟩ := X.arraycopy B.1 B.2.2.2.1 (B.2.2.2.2.1 _ hlink) (B.2.2.2.2.1 _ hnat) (B.2.2.2.2.1 _ hstat) (B.2.2.2.2.1 _ hini) (src := b0) (dst := a) (cs := scr) (cd := vp_cell c1 (n1, .inl g)) (srcPos := sp) (destPos := dp) (n := n) (by rw [hT]; exact hc0) (by rw [hT]; exact hc1)
    hs6 (fun _ h => by cases h) hs3 (fun h => by cases h) hk0 hk1 hkk0 hkk1 (by simp [refKind]) h1 h2 h3
    (by rw [nn sp h1, nn n h3]; omega)
    (by rw [nn dp h2, nn n h3]; show ¬ _ > ((arrV c1 n1 (fun j => .int (g j))).slots.size : Int); rw [arrV_size]; omega)
    (fun vm₁ _ i hi => by
      have e : scr.slots.getD (sp.toNatClampNeg + i) .null = .int (f (sp.toNatClampNeg + i)) := by
        rw [Array.getD_eq_getD_getElem?, hs5 _ (by omega)]
        rfl
      refine ⟨?_, ?_⟩
      · rw [e]
        rfl
      · rw [e]
        exact trivial)
    (g := F0 m pc ls (.int n :: .int dp :: .ref a :: .int sp :: .ref b0 :: st)) rfl (by rw [B.2.2.1]; exact hl.1) (rest := st) rfl (by rw [B.2.1]; exact hdg) hframes (by show 2 * 0 + _ + _ ≤ _; omega)
  have e1 : copied scr (vp_cell c1 (n1, .inl g)) sp dp n = vp_cell c1 (n1, .inl (va_cpy f g sp.toNatClampNeg dp.toNatClampNeg n.toNatClampNeg)) := va_copiedX (fun z => .int z) scr c1 f g hs5 h4
  rw [e1] at X' step
  have hl9 : a < H.size := (Array.getElem?_eq_some_iff.mp hc1).1
  have hheap : ((T.setVm vm').setCell a (vp_cell c1 (n1, .inl (va_cpy f g sp.toNatClampNeg dp.toNatClampNeg n.toNatClampNeg)))).heap = H.setIfInBounds a (vp_cell c1 (n1, .inl (va_cpy f g sp.toNatClampNeg dp.toNatClampNeg n.toNatClampNeg))) := by rw [← hT]; rfl
  have oq : ∀ q : Nat, q ≠ a → (H.setIfInBounds a (vp_cell c1 (n1, .inl (va_cpy f g sp.toNatClampNeg dp.toNatClampNeg n.toNatClampNeg))))[q]? = H[q]? := fun q hq => by simp [Array.getElem?_setIfInBounds, Ne.symm hq]
  obtain ⟨t, a1, b1⟩ := kk _ _ ls (hP.set hD ha1 (show (H.setIfInBounds a _)[a]? = some _ by simp [Array.getElem?_setIfInBounds, hl9]) oq) (hD.set ha1) ⟨by simp; exact hS.1, fun q g1 g2 => by
      rw [oq q (fun e => g2 (by rw [e]; exact hD.2 q1 _ ha1))]
      exact hS.2.1 q g1 g2, fun q hq => by
      rcases List.mem_append.mp hq with h | h
      · exact hS.2.2 q h
      · obtain ⟨z, -, hz⟩ := List.mem_map.mp h
        rw [← hz]
        exact hD.2 q1 _ ha1⟩ hl _ hheap X'
  exact ⟨t, step t a1, b1⟩
/-- a constructor is called on the last cell -/
theorem n_callI (B : Bs p s m args meth c D cl tys A nL cc own) (hsc : sc D A s s.heap) {b : Nat} {post : va_W → Prop} (hM : Cn l y (WW y bytes maxL none) rm D cl tys2 (.ref b :: As) sub mc2 ms2 post) (hco : Cond.code y bytes maxL none ∈ lw_gd) (hini : Cond.initialized y.cls ∈ lw_gd) (hlk : Cond.methodLink own index y ∈ lw_gd) (him : Cond.instanceMethod y ∈ lw_gd) (hyn : y.name = "<init>") (hd : y.cls ≠ "java/lang/invoke/MethodHandle" ∧ y.cls ≠ "java/lang/invoke/VarHandle" ∧ (parseMethodDescriptor y.desc).map (fun d => d.parameters.length) = some n) (h0 : rm.cells = mc2) (h1 : rm.slots = ms2) (hR : rm.frames + 1 ≤ R.frames ∧ 8 + (maxL + 11) + rm.locals ≤ R.locals)
    (isC isR ty : List Nat) (hC : isC.map (fun i => ws[i]?) = sub.map some) (hRr : isR.map (fun i => ws[i]?) = wr.map some) (hndC : va_nd isC = true) (hnd : va_nd isR = true) (hdis : ∀ i ∈ isR, i ∉ isC) (hty : ty.filterMap (fun i => tys[i]?) = tys2) (hn : As.length = n) (hst : st0 = As.reverse ++ .ref b :: st) (hcat : (st.map fun v => v.category).sum ≤ 8) (hcells : mc + mc2 ≤ R.cells ∧ ms + ms2 ≤ R.slots) (hdg : decode cc pc = .ok (.invokespecial index, 3))
    (kk : ∀ (u : va_W), post u → Nx p l e R s m args below meth c D cl A nL (mc + mc2) (ms + ms2) Q (pc + 3) lv st (wr ++ u)) : Nx p l e R s m args below meth c D cl A nL mc ms Q pc lv st0 ws := by
  intro H locs ls hP hD hS hl
  have hpre := cp_at (av := .ref b :: As) B hsc hP hD hS isC ty hC hndC hty
  have hF := va_free (wc := sub) hD hS B.2.2.2.2.2.2.2 isC hC
  have hG : GoodIn lw_gd (WW y bytes maxL none) := fun w hw => by
    rcases List.mem_cons.mp hw with rfl | hw
    · exact ⟨hco, good_of_word (tbl_good _ hco)⟩
    · exact ⟨hw, good_of_word (tbl_good _ hw)⟩
  subst hst
  refine va_callv (va_runI (As := As) (rest := st) ⟨B.1, B.2.1, B.2.2.1, B.2.2.2.1, B.2.2.2.2.1⟩ (hM H.size) (cwI n B.2.2.2.2.1 hG rfl h0 h1 (B.2.2.2.2.1 _ hini) (B.2.2.2.2.1 _ hlk) (B.2.2.2.2.1 _ him) hyn hd hR) ⟨cp_blind, hpre⟩ rfl hn hl.1 rfl (lv_room hcat) hdg hcells) hS (fun q _ h => hF q h) hF (fun u t H1 locs1 ht hvm hpo hB hz hk hS1 => ?_)
  obtain ⟨hP1, hD1⟩ := hB
  rw [ht] at hP1
  obtain ⟨g1, g2⟩ := va_join (wr := wr) hP hD isC isR hC hRr hnd hdis hk hF hP1 hD1
  exact kk u hpo H1 locs1 ls g1 g2 hS1 hl
theorem n_callIN (B : Bs p s m args meth c D cl tys A nL cc own) (hsc : sc D A s s.heap) {b : Nat} {host : String} {post : va_W → Prop} (hM : Cn l y (WW y bytes maxL none) rm D cl tys2 (.ref b :: As) sub mc2 ms2 post) (hco : Cond.code y bytes maxL none ∈ lw_gd) (hini : Cond.initialized y.cls ∈ lw_gd) (hlk : Cond.methodLinkNest own index y host ∈ nwl) (him : Cond.instanceMethod y ∈ lw_gd) (hyn : y.name = "<init>") (hd : y.cls ≠ "java/lang/invoke/MethodHandle" ∧ y.cls ≠ "java/lang/invoke/VarHandle" ∧ (parseMethodDescriptor y.desc).map (fun d => d.parameters.length) = some n) (h0 : rm.cells = mc2) (h1 : rm.slots = ms2) (hR : rm.frames + 1 ≤ R.frames ∧ 8 + (maxL + 11) + rm.locals ≤ R.locals)
    (isC isR ty : List Nat) (hC : isC.map (fun i => ws[i]?) = sub.map some) (hRr : isR.map (fun i => ws[i]?) = wr.map some) (hndC : va_nd isC = true) (hnd : va_nd isR = true) (hdis : ∀ i ∈ isR, i ∉ isC) (hty : ty.filterMap (fun i => tys[i]?) = tys2) (hn : As.length = n) (hst : st0 = As.reverse ++ .ref b :: st) (hcat : (st.map fun v => v.category).sum ≤ 8) (hcells : mc + mc2 ≤ R.cells ∧ ms + ms2 ≤ R.slots) (hdg : decode cc pc = .ok (.invokespecial index, 3))
    (kk : ∀ (u : va_W), post u → Nx p l e R s m args below meth c D cl A nL (mc + mc2) (ms + ms2) Q (pc + 3) lv st (wr ++ u)) : Nx p l e R s m args below meth c D cl A nL mc ms Q pc lv st0 ws := by
  intro H locs ls hP hD hS hl
  have hpre := cp_at (av := .ref b :: As) B hsc hP hD hS isC ty hC hndC hty
  have hF := va_free (wc := sub) hD hS B.2.2.2.2.2.2.2 isC hC
  have hG : GoodIn lw_gd (WW y bytes maxL none) := fun w hw => by
    rcases List.mem_cons.mp hw with rfl | hw
    · exact ⟨hco, good_of_word (tbl_good _ hco)⟩
    · exact ⟨hw, good_of_word (tbl_good _ hw)⟩
  subst hst
  refine va_callv (va_runIN (As := As) (rest := st) ⟨B.1, B.2.1, B.2.2.1, B.2.2.2.1, B.2.2.2.2.1⟩ (hM H.size) ⟨va_cnB n B.2.2.2.2.1 hG rfl h0 h1 (hsc.2.2.2.2.2.1 _ hlk) (B.2.2.2.2.1 _ hini) hd hR, hyn, B.2.2.2.2.1 _ him⟩ ⟨cp_blind, hpre⟩ rfl hn hl.1 rfl (lv_room hcat) hdg hcells) hS (fun q _ h => hF q h) hF (fun u t H1 locs1 ht hvm hpo hB hz hk hS1 => ?_)
  obtain ⟨hP1, hD1⟩ := hB
  rw [ht] at hP1
  obtain ⟨g1, g2⟩ := va_join (wr := wr) hP hD isC isR hC hRr hnd hdis hk hF hP1 hD1
  exact kk u hpo H1 locs1 ls g1 g2 hS1 hl
theorem n_vret (B : Bs p s m args meth c D cl tys A nL cc own) {post : va_W → Prop} (hQ : MQ below (va_Qv post (BN D cl A) A) args s mc2 ms2 A = Q) (hr : meth.sig.returnType = none) (hdg : decode cc pc = .ok (.return_, 1)) (h1 : mc ≤ mc2) (h2 : ms ≤ ms2) (hp : post ws) : Nx p l e R s m args below meth c D cl A nL mc ms Q pc lv [] ws := by
  subst hQ
  exact fun H locs ls hP hD hS hl => W.widen h1 h2 (W.vret B.1 B.2.1 hr (fun t ht hW => ⟨⟨ws, rfl, hp, by rw [ht]; exact hP, hD⟩, hS.F ht⟩) hS.2.2 hdg (hlocks := B.2.2.2.2.2.2.1))
theorem cn_in {l : Launch} {y : MethodName} {cc : ByteArray} {nL : Nat} {rm : Room} {D : va_G} {cl : List vw_C} {tys : List (ClassId × FieldType)} {av : List Value} {cells : va_W} {mc ms : Nat} {post : va_W → Prop} (hy : plainName y.cls = true) (hyn : y.name = "<init>") (hlen : (lg_sl av).length ≤ nL)
    (body : ∀ (p : Program) (e : Env) (s : State) (m : MethodId) (args : Array Value) (below : List Frame) (meth : Method) (c : Code) (A : Nat → Prop) (Q : State → Prop), MQ below (va_Qv post (BN D cl A) A) args s mc ms A = Q → Bs p s m args meth c D cl tys A nL cc y.cls → meth.sig.returnType = none → sc D A s s.heap → meth.name = "<init>" → Nx p l e rm s m args below meth c D cl A nL 0 0 Q 0 (lv_args 0 av) [] cells) : Cn l y (WW y cc nL none) rm D cl tys av cells mc ms post := by
  intro sz
  refine Met.ofW (cc := cc) (maxL := nL) (ret := none) hy rfl ?_
  intro p e s m args below meth c s₁ B hml hv
  obtain ⟨rfl, hsz, hP, hK, hD0, hsc⟩ := hv
  subst hsz
  have hts := atoms_spec (ws := WW y cc nL none) B.pre
  have hown := findClass_of_methodNamed B.named
  have hin : meth.name = "<init>" := (name_of_methodNamed B.named B.method).1.trans hyn
  have hD := hD0.self (sz := s.heap.size)
  have hl := lv_entry av (n := nL) hlen
  rw [lg_entry_eq]
  exact body p e s m _ below meth c _ _ rfl ⟨B.exec, B.bytes, hml, hown, fun w hw => hts w (List.mem_cons_of_mem _ hw), hK, B.notSynchronized, fun q h => Or.inr h⟩ B.returns hsc hin s.heap [] _ hP hD va_S.rf hl
end SXN
