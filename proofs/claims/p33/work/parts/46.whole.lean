set_option maxHeartbeats 8000000 in
set_option maxRecDepth 100000 in
/-- the law, from its entry -/
theorem whole_start {p : Program} {e : Env} {s : State} {m : MethodId} {below : List Frame} {meth : Method} {c : Code} (l : Launch) (hflags : l.flags = flags0) {b L : Nat} {xs : Nat → Int32} (hL : L ≤ 320) (C0 : lw_At p s m meth c b L xs) : W p l e room_1 s m #[Value.ref b] below meth c s.heap [] 0 0 (lw_Z below #[Value.ref b] s) (entryFrame m ([Value.ref b] : List Value).toArray 4) := by
  obtain ⟨hx, hb, hr, hml, hown, hts, hX, hbl, hlocks, hgv⟩ := id C0
  have hgd : ∀ w ∈ lw_gd, w.before #[Value.ref b] s = true := fun w hw => hts w (List.mem_filter.mp hw).1
  have hs := flat_of_before _ hgv
  have hA0 : ∀ a : Nat, a < s.heap.size → ¬ (fun q : Nat => s.heap.size ≤ q) a := fun a h => Nat.not_le.mpr h
  obtain ⟨adK, adV, hS1, hS2⟩ := st_strs (A := (fun q : Nat => s.heap.size ≤ q)) hts hs hA0
  obtain ⟨h2a, h2b, h2c⟩ := st_two (A := (fun q : Nat => s.heap.size ≤ q)) hts hs hA0
  obtain ⟨c0, i0, hK0⟩ := u_known (C := RX0) (T := TX0) (N := 9) (n := 9) hgd inX0 (hgd _ ins_RX0)
  obtain ⟨c1, i1, hK1⟩ := u_known (C := RX1) (T := TX1) (N := 2) (n := 2) hgd inX1 (hgd _ ins_RX1)
  obtain ⟨c2, i2, hK2⟩ := u_known (C := RX2) (T := TX2) (N := 15) (n := 15) hgd inX2 (hgd _ ins_RX2)
  obtain ⟨c3, i3, hK3⟩ := u_known (C := RX3) (T := TX3) (N := 3) (n := 3) hgd inX3 (hgd _ ins_RX3)
  obtain ⟨c4, i4, hK4⟩ := u_known (C := RX4) (T := TX4) (N := 3) (n := 3) hgd inX4 (hgd _ ins_RX4)
  obtain ⟨c5, i5, hK5⟩ := u_known (C := RX5) (T := TX5) (N := 6) (n := 6) hgd inX5 (hgd _ ins_RX5)
  obtain ⟨c6, i6, hK6⟩ := u_known (C := RX6) (T := TX6) (N := 6) (n := 6) hgd inX6 (hgd _ ins_RX6)
  obtain ⟨c7, i7, hK7⟩ := u_known (C := RX7) (T := TX7) (N := 1) (n := 1) hgd inX7 (hgd _ ins_RX7)
  obtain ⟨c8, i8, hK8⟩ := u_known (C := RX8) (T := TX8) (N := 9) (n := 9) hgd inX8 (hgd _ ins_RX8)
  obtain ⟨c9, i9, hK9⟩ := u_known (C := RX9) (T := TX9) (N := 45) (n := 45) hgd inX9 (hgd _ ins_RX9)
  obtain ⟨g0, ga0, gb0⟩ := arr_of (hgd _ ac_FieldType_int)
  obtain ⟨g1, ga1, gb1⟩ := arr_of (hgd _ ac_FieldType_byte)
  obtain ⟨g2, ga2, gb2⟩ := arr_of (hgd _ ac_FieldType_long)
  obtain ⟨g3, ga3, gb3⟩ := arr_obj h2c.1
  obtain ⟨g4, ga4, gb4⟩ := arr_obj h2c.2
  obtain ⟨D, hD100, hD101, hKc⟩ : ∃ D : va_G, D.2 100 = adK ∧ D.2 101 = adV ∧ ∀ (k : Nat) (q : vw_C), vwCl[k]? = some q → u_Kn s q.1 q.2.1 q.2.2 (D.1 k) (D.2 k) := by
    refine ⟨(fun k => if k = 0 then c0 else if k = 1 then c1 else if k = 2 then c2 else if k = 3 then c3 else if k = 4 then c4 else if k = 5 then c5 else if k = 6 then c6 else if k = 7 then c7 else if k = 8 then c8 else c9, fun k => if k = 100 then adK else if k = 101 then adV else if k = 0 then i0 else if k = 1 then i1 else if k = 2 then i2 else if k = 3 then i3 else if k = 4 then i4 else if k = 5 then i5 else if k = 6 then i6 else if k = 7 then i7 else if k = 8 then i8 else i9), rfl, rfl, ?_⟩
    intro k q hq
    match k, hq with
    | 0, hq => cases hq; exact hK0
    | 1, hq => cases hq; exact hK1
    | 2, hq => cases hq; exact hK2
    | 3, hq => cases hq; exact hK3
    | 4, hq => cases hq; exact hK4
    | 5, hq => cases hq; exact hK5
    | 6, hq => cases hq; exact hK6
    | 7, hq => cases hq; exact hK7
    | 8, hq => cases hq; exact hK8
    | 9, hq => cases hq; exact hK9
    | k + 10, hq => simp [vwCl] at hq
  obtain ⟨g, hKt⟩ : ∃ g : Nat → ClassId, ∀ (k : Nat) (q : ClassId × FieldType), (TY g)[k]? = some q → ArrOfT s q.1 q.2 ∧ va_RA s q.1 q.2 := by
    refine ⟨fun k => if k = 0 then g0 else if k = 1 then g1 else if k = 2 then g2 else if k = 3 then g3 else g4, ?_⟩
    intro k q hq
    match k, hq with
    | 0, hq => cases hq; exact ⟨ga0, gb0⟩
    | 1, hq => cases hq; exact ⟨ga1, gb1⟩
    | 2, hq => cases hq; exact ⟨ga2, gb2⟩
    | 3, hq => cases hq; exact ⟨ga3, gb3⟩
    | 4, hq => cases hq; exact ⟨ga4, gb4⟩
    | k + 5, hq => simp [TY] at hq
  have hK : va_K D vwCl (TY g) s := ⟨hKc, hKt⟩
  have hsc : sc D (fun q : Nat => s.heap.size ≤ q) s s.heap := ⟨st_tab_first hts hs hA0, st_tab_lowest hts hs hA0, st_tab_highest hts hs hA0, st_tab_above hts hs hA0, st_tab_bodies hts hs hA0, st_nw hts, ⟨by rw [hD100, hD101]; exact hS1, fun i hi => by rw [hD100]; exact hS2 i hi, h2a, h2b, h2c⟩⟩
  have B : Bs p s m #[Value.ref b] meth c D vwCl (TY g) (fun q : Nat => s.heap.size ≤ q) 4 cL_law RL := ⟨hx, hb, hml, hown, hgd, hK, hlocks, fun q h => h⟩
  have hbA : ¬ (fun q : Nat => s.heap.size ≤ q) b := Nat.not_le.mpr hbl
  suffices HN : Nx p l e room_1 s m #[Value.ref b] below meth c D vwCl (fun q : Nat => s.heap.size ≤ q) 4 0 0 (lw_Z below #[Value.ref b] s) 0 [(0, .ref b)] [] [] by
    have hl := lv_entry ([.ref b]) (n := 4) (Nat.le_of_ble_eq_true rfl)
    rw [lg_entry_eq]
    exact HN s.heap [] _ (fun k q h => by simp at h) ⟨fun i j p q h => by simp at h, fun k q h => by simp at h⟩ va_S.rf hl
  refine n_new (C := RX8) (T := TX8) (N := 9) (ci := 8) B inX8 tyX8_ok kl_L_7 ins_RX8 ini_RX8 rfl (fs := [.null, .null, .int 0, .null, .null, .null, .null, .null, .null]) dfX8 (Nat.le_of_ble_eq_true rfl) (Nat.le_of_ble_eq_true rfl) dL_law_0 (fun q1 => ?_)
  refine n_ws (ws' := [(q1, .inr (8, [.null, .null, .int 0, .null, .null, .null, .null, .null, .null]))]) rfl ?_
  refine n_dup B dL_law_3 rfl ?_
  refine n_callI B hsc (c_X8_init l D g q1) co_yX8_init ini_RX8 ml_L_9 im_yX8_init rfl hd_X8_init rfl rfl ⟨(Nat.le_of_ble_eq_true rfl), (Nat.le_of_ble_eq_true rfl)⟩ [0] [] [0, 1, 2, 3, 4] (wr := []) rfl rfl (by decide) (by decide) (by decide) rfl (As := []) rfl rfl (Nat.le_of_ble_eq_true rfl) ⟨(Nat.le_of_ble_eq_true rfl), (Nat.le_of_ble_eq_true rfl)⟩ dL_law_4 (fun u hpo => ?_)
  obtain ⟨an, ak, aa, ae, ar, th, as, av, bT, hT, hB, bS, bV, rfl⟩ := hpo
  refine n_astore_n (lv' := [(1, .ref q1), (0, .ref b)]) B dL_law_7 rfl (Nat.le_of_ble_eq_true rfl) rfl ?_
  refine n_new (C := RX9) (T := TX9) (N := 45) (ci := 9) B inX9 tyX9_ok kl_L_10 ins_RX9 ini_RX9 rfl (fs := [.int 0, .null, .null, .int 0, .null, .null, .null, .null, .null, .null, .int 0, .null, .int 0, .int 0, .int 0, .int 0, .long 0, .int 0, .int 0, .int 0, .int 0, .null, .null, .null, .null, .null, .null, .int 0, .int 0, .null, .null, .null, .null, .null, .null, .int 0, .int 0, .int 0, .null, .int 0, .int 0, .int 0, .null, .int 0, .null]) dfX9 (Nat.le_of_ble_eq_true rfl) (Nat.le_of_ble_eq_true rfl) dL_law_8 (fun q2 => ?_)
  refine n_ws (ws' := ClsW g q1 an ak bT aa hT hB ae ar bS bV th as av 0 0 1 (fun _ => 0) (fun _ => 0) (fun _ => 0) (fun _ => 0) (fun _ => 0) (fun _ => 0) (fun _ => 0) (fun _ => 0) (fun _ => 0) (fun _ => 0) (va_cpy tb_first (fun _ => 0) 0 0 4) (fun j => ([(fun _ => 0) 0, (fun _ => 0) 1, (fun _ => 0) 2, (fun _ => 0) 3, (fun _ => 0) 4, (fun _ => 0) 5, (fun _ => 0) 6, (fun _ => 0) 7, (fun _ => 0) 8] : List Int32).getD j 0) 0 0 1 (fun _ => 0) (fun _ => 0) (fun _ => 0) (fun _ => 0) (fun _ => 0) (fun _ => 0) (fun _ => 0) (fun _ => 0) (fun _ => 0) (fun _ => 0) (va_cpy tb_first (fun _ => 0) 0 0 4) (fun j => ([(fun _ => 0) 0, (fun _ => 0) 1, (fun _ => 0) 2, (fun _ => 0) 3, (fun _ => 0) 4, (fun _ => 0) 5, (fun _ => 0) 6, (fun _ => 0) 7, (fun _ => 0) 8] : List Int32).getD j 0) 0 0 1 (fun _ => 0) (fun _ => 0) (fun _ => 0) (fun _ => 0) (fun _ => 0) (fun _ => 0) (fun _ => 0) (fun _ => 0) (fun _ => 0) (fun _ => 0) (va_cpy tb_first (fun _ => 0) 0 0 4) (fun j => ([(fun _ => 0) 0, (fun _ => 0) 1, (fun _ => 0) 2, (fun _ => 0) 3, (fun _ => 0) 4, (fun _ => 0) 5, (fun _ => 0) 6, (fun _ => 0) 7, (fun _ => 0) 8] : List Int32).getD j 0) 0 0 0 (-1) (fun _ => 0) 0 0 1 (fun _ => 0) (fun _ => 0) (fun _ => 0) (fun _ => 0) (fun _ => 0) (fun _ => 0) (fun _ => 0) (fun _ => 0) (fun _ => 0) (fun _ => 0) (va_cpy tb_first (fun _ => 0) 0 0 4) (fun j => ([(fun _ => 0) 0, (fun _ => 0) 1, (fun _ => 0) 2, (fun _ => 0) 3, (fun _ => 0) 4, (fun _ => 0) 5, (fun _ => 0) 6, (fun _ => 0) 7, (fun _ => 0) 8] : List Int32).getD j 0) 0 (fun _ => 0) 0 0 0 0 0 (fun _ => 0) (-1) 0 (fun _ => 0) (-1) 0 (fun _ => 0) (-1) 0 (fun _ => 0) (-1) 0 (fun _ => 0) 2 0 0 2 0 0 2 0 0 2 0 0 0 ++ [(q2, .inr (9, [.int 0, .null, .null, .int 0, .null, .null, .null, .null, .null, .null, .int 0, .null, .int 0, .int 0, .int 0, .int 0, .long 0, .int 0, .int 0, .int 0, .int 0, .null, .null, .null, .null, .null, .null, .int 0, .int 0, .null, .null, .null, .null, .null, .null, .int 0, .int 0, .int 0, .null, .int 0, .int 0, .int 0, .null, .int 0, .null]))]) rfl ?_
  refine n_dup B dL_law_11 rfl ?_
  refine n_callI B hsc (c_X9_init l D g q2) co_yX9_init ini_RX9 ml_L_12 im_yX9_init rfl hd_X9_init rfl rfl ⟨(Nat.le_of_ble_eq_true rfl), (Nat.le_of_ble_eq_true rfl)⟩ [74] [0, 1, 2, 3, 4, 5, 6, 7, 8, 9, 10, 11, 12, 13, 14, 15, 16, 17, 18, 19, 20, 21, 22, 23, 24, 25, 26, 27, 28, 29, 30, 31, 32, 33, 34, 35, 36, 37, 38, 39, 40, 41, 42, 43, 44, 45, 46, 47, 48, 49, 50, 51, 52, 53, 54, 55, 56, 57, 58, 59, 60, 61, 62, 63, 64, 65, 66, 67, 68, 69, 70, 71, 72, 73] [0, 1, 2, 3, 4] (wr := ClsW g q1 an ak bT aa hT hB ae ar bS bV th as av 0 0 1 (fun _ => 0) (fun _ => 0) (fun _ => 0) (fun _ => 0) (fun _ => 0) (fun _ => 0) (fun _ => 0) (fun _ => 0) (fun _ => 0) (fun _ => 0) (va_cpy tb_first (fun _ => 0) 0 0 4) (fun j => ([(fun _ => 0) 0, (fun _ => 0) 1, (fun _ => 0) 2, (fun _ => 0) 3, (fun _ => 0) 4, (fun _ => 0) 5, (fun _ => 0) 6, (fun _ => 0) 7, (fun _ => 0) 8] : List Int32).getD j 0) 0 0 1 (fun _ => 0) (fun _ => 0) (fun _ => 0) (fun _ => 0) (fun _ => 0) (fun _ => 0) (fun _ => 0) (fun _ => 0) (fun _ => 0) (fun _ => 0) (va_cpy tb_first (fun _ => 0) 0 0 4) (fun j => ([(fun _ => 0) 0, (fun _ => 0) 1, (fun _ => 0) 2, (fun _ => 0) 3, (fun _ => 0) 4, (fun _ => 0) 5, (fun _ => 0) 6, (fun _ => 0) 7, (fun _ => 0) 8] : List Int32).getD j 0) 0 0 1 (fun _ => 0) (fun _ => 0) (fun _ => 0) (fun _ => 0) (fun _ => 0) (fun _ => 0) (fun _ => 0) (fun _ => 0) (fun _ => 0) (fun _ => 0) (va_cpy tb_first (fun _ => 0) 0 0 4) (fun j => ([(fun _ => 0) 0, (fun _ => 0) 1, (fun _ => 0) 2, (fun _ => 0) 3, (fun _ => 0) 4, (fun _ => 0) 5, (fun _ => 0) 6, (fun _ => 0) 7, (fun _ => 0) 8] : List Int32).getD j 0) 0 0 0 (-1) (fun _ => 0) 0 0 1 (fun _ => 0) (fun _ => 0) (fun _ => 0) (fun _ => 0) (fun _ => 0) (fun _ => 0) (fun _ => 0) (fun _ => 0) (fun _ => 0) (fun _ => 0) (va_cpy tb_first (fun _ => 0) 0 0 4) (fun j => ([(fun _ => 0) 0, (fun _ => 0) 1, (fun _ => 0) 2, (fun _ => 0) 3, (fun _ => 0) 4, (fun _ => 0) 5, (fun _ => 0) 6, (fun _ => 0) 7, (fun _ => 0) 8] : List Int32).getD j 0) 0 (fun _ => 0) 0 0 0 0 0 (fun _ => 0) (-1) 0 (fun _ => 0) (-1) 0 (fun _ => 0) (-1) 0 (fun _ => 0) (-1) 0 (fun _ => 0) 2 0 0 2 0 0 2 0 0 2 0 0 0) rfl rfl (by decide) (by decide) (by decide) rfl (As := []) rfl rfl (Nat.le_of_ble_eq_true rfl) ⟨(Nat.le_of_ble_eq_true rfl), (Nat.le_of_ble_eq_true rfl)⟩ dL_law_12 (fun u hpo => ?_)
  obtain ⟨b', rfl, rfl⟩ := hpo
  refine n_astore_n (lv' := [(2, .ref (b' 0)), (1, .ref q1), (0, .ref b)]) B dL_law_15 rfl (Nat.le_of_ble_eq_true rfl) rfl ?_
  refine n_iconst B dL_law_16 ic_0 ?_
  refine n_istore_n (lv' := [(3, .int 0), (2, .ref (b' 0)), (1, .ref q1), (0, .ref b)]) B dL_law_17 rfl (Nat.le_of_ble_eq_true rfl) rfl ?_
  refine n_lv (lv' := [(0, _), (1, _), (2, _), (3, _)]) [3, 2, 1, 0] rfl ?_
  refine n_lve (lv' := [(0, .ref b), (1, .ref q1), (2, .ref (b' 0)), (3, .int (nI 0))]) rfl ?_
  refine n_widen (mc2 := 99) (ms2 := 2467) (Nat.le_of_ble_eq_true rfl) (Nat.le_of_ble_eq_true rfl) ?_
  refine law_loop B hsc hX hbl hbA hL (fun k t S ws h => ?_) (L + 1) 0 0 (fun _ => -1, fun _ => 0, fun _ => 0, fun _ _ => 0, (0, (fun _ => 0), (fun _ => 0), (fun _ => 0), (fun _ => 0), (fun _ => 0), (fun _ => 0), (fun _ => 0), (fun _ => 0), (fun _ => 0), (fun _ => 0), (va_cpy tb_first (fun _ => 0) 0 0 4), 0, 1), 0, (0, (fun _ => 0), (fun _ => 0), (fun _ => 0), (fun _ => 0), (fun _ => 0), (fun _ => 0), (fun _ => 0), (fun _ => 0), (fun _ => 0), (fun _ => 0), (va_cpy tb_first (fun _ => 0) 0 0 4), 0, 1), ((fun _ => 0), 0), ((upd (upd (upd (upd (fun _ => 0) 0 (-1)) 1 (-1)) 2 (-1)) 3 (-1)), (fun _ => 0), (fun _ => 0)), (fun _ => 0), 0) _ (Nat.zero_le _) (by omega) ⟨(fun _ => 0), (fun _ => 0), (fun i => ([1, 1, 1, (-1), 1, 0, 0, 0, 0, (-1), (-1), (-1), (-1), 2, 0, 0, 2, 0, 0, 2, 0, 0, 2, 0, 0, 0] : List Int32).getD i 0), (fun i => ([(fun _ => 0), (fun _ => 0), (fun _ => 0), (fun _ => 0), (fun _ => 0), (fun _ => 0), (fun _ => 0), (fun _ => 0), (fun _ => 0), (fun _ => 0), (va_cpy tb_first (fun _ => 0) 0 0 4), (fun j => ([(fun _ => 0) 0, (fun _ => 0) 1, (fun _ => 0) 2, (fun _ => 0) 3, (fun _ => 0) 4, (fun _ => 0) 5, (fun _ => 0) 6, (fun _ => 0) 7, (fun _ => 0) 8] : List Int32).getD j 0), (fun _ => 0), (fun _ => 0), (fun _ => 0), (fun _ => 0), (fun _ => 0), (fun _ => 0), (fun _ => 0), (fun _ => 0), (fun _ => 0), (fun _ => 0), (va_cpy tb_first (fun _ => 0) 0 0 4), (fun j => ([(fun _ => 0) 0, (fun _ => 0) 1, (fun _ => 0) 2, (fun _ => 0) 3, (fun _ => 0) 4, (fun _ => 0) 5, (fun _ => 0) 6, (fun _ => 0) 7, (fun _ => 0) 8] : List Int32).getD j 0), (fun _ => 0), (fun _ => 0), (fun _ => 0), (fun _ => 0), (fun _ => 0), (fun _ => 0), (fun _ => 0), (fun _ => 0), (fun _ => 0), (fun _ => 0), (va_cpy tb_first (fun _ => 0) 0 0 4), (fun j => ([(fun _ => 0) 0, (fun _ => 0) 1, (fun _ => 0) 2, (fun _ => 0) 3, (fun _ => 0) 4, (fun _ => 0) 5, (fun _ => 0) 6, (fun _ => 0) 7, (fun _ => 0) 8] : List Int32).getD j 0), (fun _ => 0), (fun _ => 0), (fun _ => 0), (fun _ => 0), (fun _ => 0), (fun _ => 0), (fun _ => 0), (fun _ => 0), (fun _ => 0), (fun _ => 0), (fun _ => 0), (va_cpy tb_first (fun _ => 0) 0 0 4), (fun j => ([(fun _ => 0) 0, (fun _ => 0) 1, (fun _ => 0) 2, (fun _ => 0) 3, (fun _ => 0) 4, (fun _ => 0) 5, (fun _ => 0) 6, (fun _ => 0) 7, (fun _ => 0) 8] : List Int32).getD j 0), (fun _ => 0), (fun _ => 0)] : List (Nat → Int32)).getD i (fun _ => 0)), (fun i => ([(fun _ => 0), (fun _ => 0), (fun _ => 0), (fun _ => 0)] : List (Nat → Int64)).getD i (fun _ => 0)), (fun _ => 0), (upd (fun _ => 0) 10 1), 0, (fun i => ([(fun _ => 0), (fun _ => 0), (fun _ => 0), (fun _ => 0), (fun _ => 0), (upd (upd (upd (upd (fun _ => 0) 0 5) 1 11) 2 2) 3 3), (upd (upd (upd (upd (fun _ => 0) 0 1) 1 2) 2 1) 3 1), (upd (upd (upd (upd (fun _ => 0) 0 20) 1 30) 2 8) 3 20), (fun _ => 0), (fun _ => 0), (fun _ => 0), (fun _ => 0), (fun _ => 0), (fun _ => 0), (fun _ => 0), (upd (upd (upd (upd (fun _ => 0) 0 (-1)) 1 (-1)) 2 (-1)) 3 (-1)), (fun _ => 0), (fun _ => 0), (upd (upd (upd (upd (fun _ => 0) 0 (-1)) 1 (-1)) 2 (-1)) 3 (-1)), (fun _ => 0), (fun _ => 0), (fun _ => 0), (fun _ => 0), (fun _ => 0)] : List (Nat → Int32)).getD i (fun _ => 0)), (fun _ => 0), fun i => Nat.zero_le _, fun i => Nat.zero_le _, Nat.zero_le _, Nat.zero_le _, ⟨⟨0, by decide, rfl⟩, ⟨0, by decide, rfl⟩⟩, fun j _ => ⟨0, by decide, rfl⟩, Or.inl rfl, ⟨⟨rfl, rfl, rfl, rfl⟩, rfl, rfl, rfl, rfl⟩, fun j _ => ⟨Or.inl rfl, 0, by decide, rfl⟩, (fun j hj => by rcases (show j = 0 ∨ j = 1 ∨ j = 2 ∨ j = 3 from by omega) with rfl | rfl | rfl | rfl <;> exact ⟨rfl, rfl⟩), ⟨rfl, rfl, rfl, rfl⟩, (fun _ _ _ _ => rfl), rfl, (fun _ => Or.inl ⟨rfl, (show ¬ (0 : Int32) < 0 by decide)⟩), ⟨⟨rfl, rfl, rfl, rfl⟩, rfl, rfl, rfl, rfl⟩, rfl, rfl, rfl, (RG_init (fun j hj => by rcases (show j = 0 ∨ j = 1 ∨ j = 2 ∨ j = 3 from by omega) with rfl | rfl | rfl | rfl <;> rfl) (by decide) (by decide)), rfl, (fun q => absurd rfl q), rfl, ⟨⟨rfl, Nat.zero_le _⟩, fun j hj => absurd hj (Nat.not_lt_zero j)⟩, (fun j hj => Or.inl (by rcases (show j = 0 ∨ j = 1 ∨ j = 2 ∨ j = 3 from by omega) with rfl | rfl | rfl | rfl <;> exact ⟨rfl, rfl⟩)), rfl, (fun j hj => Or.inl (by rcases (show j = 0 ∨ j = 1 ∨ j = 2 ∨ j = 3 from by omega) with rfl | rfl | rfl | rfl <;> rfl)), TrA_0, TrA_0, rfl⟩
  intro H locs ls hP hD hS hl
  refine lv_iconst (v := 1) hx hb dL_law_1460 (by decide) ?_
  refine va_forget (fun q hq => hS.2.2 q hq) ?_
  refine W.widen (k := 600000) (n := 7302250) (Nat.le_of_ble_eq_true rfl) (Nat.le_of_ble_eq_true rfl) ?_
  exact lw_ret hx hb hr hlocks dL_law_1461
set_option maxHeartbeats 4000000 in
theorem lw_walk (l : Launch) (hflags : l.flags = flags0) (b : Addr) (xs : List Int32) : MetFree l x (headSpec (Jvm.Cond.code x code maxLocals ret :: tables_1) room_1) (lw_P b xs) (fun _ _ _ _ _ => True) lw_Q := by
  refine MetFree.of_bodyS (code := code) (maxLocals := maxLocals) (ret := ret) (by decide) ?_ ?_
  · intro args s m h hn
    obtain ⟨meth, c, h1, h2, h3, h4, h5, h6, -, -⟩ := Cond.code_spec hn (atoms_spec (ws := Jvm.Cond.code x code maxLocals ret :: tables_1) h _ List.mem_cons_self)
    exact ⟨meth, c, h1, h2, h3, h4, h5, h6⟩
  · intro p e s m args below meth c s₁ B hml0 hP _
    obtain ⟨rfl, hx, hbd, hgv⟩ := hP
    obtain ⟨scr, harrAt, hlist, hof, hsmall⟩ := hx
    obtain ⟨hcb, hkn, -, -⟩ := State.arrayAt?_spec harrAt
    have hown : s.vm.findClass R_law = some m.cls := findClass_of_methodNamed B.named
    have hts0 : ∀ c ∈ (Jvm.Cond.code x code maxLocals ret :: tables_1), c.before #[Value.ref b] s = true := atoms_spec (ws := Jvm.Cond.code x code maxLocals ret :: tables_1) B.pre
    have hts : ∀ w ∈ lw_tbl, w.before #[Value.ref b] s = true := k2_hts_sels lw_privs (fun w hw => hts0 w (List.mem_cons_of_mem _ hw)) lw_privs_ok
    have hml : c.maxLocals = 4 := B.maxLocals_eq (hts0 _ List.mem_cons_self)
    have X₀ : Stand p l e room_1 s m #[Value.ref b] below meth c s₁ [] 0 0 := Stand.of_body B
    have hh0 : s₁.heap = s.heap := by rw [B.state]; rfl
    have hsz : scr.slots.size = xs.length := by rw [← Array.length_toList, hlist, List.length_map]
    have hval : ∀ j : Nat, j < xs.length → scr.slots[j]? = some (.int (xs.getD j 0)) := fun j hj => by
      rw [← Array.getElem?_toList, hlist]
      simp [hj]
    have hbl : b < s.heap.size := (Array.getElem?_eq_some_iff.mp hcb).1
    have hX : va_X b xs.length (fun j => xs.getD j 0) s s.heap := ⟨scr, hcb, hof, hkn, hsz, hval⟩
    have K : W p l e room_1 s m #[Value.ref b] below meth c s₁.heap [] 0 0 (lw_Z below #[Value.ref b] s) (entryFrame m ([Value.ref b] : List Value).toArray 4) := by
      rw [hh0]
      exact whole_start l hflags hbd ⟨B.exec, B.bytes, B.returns, hml, hown, hts, hX, hbl, B.notSynchronized, hgv⟩
    obtain ⟨t, a1, o, b1, b2, b3⟩ := K s₁ rfl X₀
    exact ⟨t, o, a1, b1, b2, b3⟩
theorem lw_pre_spec {args : Array Value} {s : State} (h : (Jvm.Cond.and given_1 narrow_1).before args s = true) (hr : rest_1_c.before args s = true) : ∃ (b : Addr) (xs : List Int32), lw_P b xs args s := by
  have hs := flat_of_before _ h
  have hq := flat_of_before _ hr
  have hc : (Cond.count 1).before args s = true := hs _ (by decide +kernel)
  have harr : (Cond.arrayOf (.arg 0) .int).before args s = true := hs _ (by decide +kernel)
  have hle : (Cond.le (.length (.arg 0)) (.int 320)).before args s = true := hs _ (by decide +kernel)
  have hlen : (Cond.isInt (.length (.arg 0))).before args s = true := hq _ (by decide +kernel)
  have hall : (Cond.all (.arg 0) (.isInt (.elem (.arg 0) (.index 0)))).before args s = true := hq _ (by decide +kernel)
  obtain ⟨b, xs, hb, hx⟩ := State.ints_of_pre rfl harr hlen hall
  have hsm : xs.length < 2 ^ 31 := hx.choose_spec.2.2.2
  have hev : (Term.length (.arg 0)).eval args s none [] s = some (.int xs.length.toInt32) := hx.length_eval hb
  have hv := Cond.le_ints hev (show (Term.int 320).eval args s none [] s = some (.int 320) from rfl)
  have hd : xs.length.toInt32 ≤ 320 := by
    simpa [Cond.before, Cond.holds, hv] using hle
  have hN : xs.length ≤ 320 := (Int32.ofNat_le_ofNat hsm (by decide)).mp (show Int32.ofNat xs.length ≤ Int32.ofNat 320 from hd)
  exact ⟨b, xs, Cond.one_arg hc (show args[0]? = some (.ref b) from hb), hx, hN, h⟩
theorem lw_comes (l : Launch) (hflags : l.flags = flags0) : Comes l x (Jvm.Cond.code x code maxLocals ret :: tables_1) room_1 (fun tb e args s => Calls_1 tb e args s ∧ rest_1 tb e args s ∧ Pre_1 tb e args s)
    (fun _ _ args s o t => lw_Q args s o t) := by
  intro p e ha hc hk s m args below hf hfit hheap happ hpre
  obtain ⟨b, xs, hP⟩ := lw_pre_spec hpre.2.2 hpre.2.1
  obtain ⟨k, o, h1, h2, h3, hQ⟩ := lw_walk l hflags b xs p e ha hc hk s m args below hf ((Spec.applies_iff_loose hf).mp happ).1 hP trivial
  exact ⟨k, o, h1, h2, h3, hQ⟩
theorem lw_frame {s t : State} {o : Outcome} {args : Array Value} (h : Framed s o t [] 600000 7302250) :
    Framed s o t (fieldLocs frame_1_writes args s ++ arrayLocs frame_1_arrays args s ++ staticLocs frame_1_statics s) 600000 7302250 := h
theorem lw_limb (L : Cond) (hL : ∀ (args : Array Value) (s t : State), L.after args s (.returned (some (.int 1))) t = true) :
    ArmFor flags0 classFile x code maxLocals ret World_1 tables_1 room_1 Calls_1 rest_1 Pre_1
      (fun tb e a s o t => postC L tb e a s o t ∧ Framed s o t (fieldLocs frame_1_writes a s ++ arrayLocs frame_1_arrays a s ++ staticLocs frame_1_statics s) 600000 7302250) := by
  intro l hflags _ _ p e ha hc hk s m args below hf hfit hheap happ hpre
  obtain ⟨k, o, h1, h2, h3, rfl, hF⟩ := lw_comes l hflags p e ha hc hk s m args below hf hfit hheap happ hpre
  exact ⟨k, _, h1, h2, h3, hL args s _, lw_frame hF⟩
theorem i_vc : Claimed_1_1 ∧ Claimed_1_2 := ⟨lw_limb limb_1_1 (fun args s t => by simp [limb_1_1, Cond.after, Cond.holds, Cond.value]), lw_limb limb_1_2 (fun args s t => Cond.after_iff.mpr (by
  first | (rw [show limb_1_2 = Cond.eq .result (.int 1) from rfl, Cond.eq_ints (x := 1) (y := 1) rfl rfl]; simp; done) | (simp [limb_1_2, Cond.value, Term.eval]; done)))⟩
