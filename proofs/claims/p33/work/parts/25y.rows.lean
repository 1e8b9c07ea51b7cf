/-! ROWS told: the class's cells and how many; the reference's rows agree below -/
abbrev MW : Type := MA × Nat
abbrev gSk (G : MG) : Nat → Int32 := fun i => mSick (gGoT G (i + 1)).1 (gN G)
def RwR (W : MW) (q : Nat) (rows : MA) : Prop := (q = W.2 ∧ W.2 ≤ 20) ∧ ∀ j : Nat, j < 3 * W.2 → rows j = W.1 j
abbrev okP (m : Int32) : Prop := ¬ m < 1 ∧ ¬ 20 < m
abbrev gPk (m : Int32) (G : MG) : Nat := min m.toNatClampNeg (40 - gTd G)
def gProve (m : Int32) (G : MG) (W : MW) : MW := if okP m then (mRowsC W.1 (gDI G) (gSk G) (gTd G) (gPk m G), gPk m G) else W
def aProve (m : Int32) (G : MG) : Int32 := if okP m then nI (gPk m G) else -1
def aRow (i w : Int32) (W : MW) : Int32 := if mPlace W.2 i w < 0 then -9 else W.1 (mPlace W.2 i w).toNatClampNeg
def gAlter (i w v : Int32) (W : MW) : MW := if mPlace W.2 i w < 0 then W else (upd W.1 (mPlace W.2 i w).toNatClampNeg v, W.2)
abbrev wF (G : MG) (W : MW) : Nat → Bool := fun i => decide (40 ≤ gTd G + i) || !decide (W.1 (i * 3) = nI (gTd G + (i + 1)) - 1 ∧ W.1 (i * 3 + 1) = gDI G i ∧ W.1 (i * 3 + 2) = gSk G i)
def aJudge (G : MG) (W : MW) : Int32 := mFirst (wF G W) (-1) W.2 + 1
theorem mRowsC_at {cl f s : Nat → Int32} {td : Nat} : ∀ m i : Nat, i < m → mRowsC cl f s td m (i * 3) = nI (td + i) ∧ mRowsC cl f s td m (i * 3 + 1) = f i ∧ mRowsC cl f s td m (i * 3 + 2) = s i
  | 0, i, h => absurd h (Nat.not_lt_zero i)
  | m + 1, i, h => by
    show upd (upd (upd (mRowsC cl f s td m) (m * 3) (nI (td + (m + 1)) - 1)) (m * 3 + 1) (f m)) (m * 3 + 2) (s m) (i * 3) = _ ∧ upd (upd (upd (mRowsC cl f s td m) (m * 3) (nI (td + (m + 1)) - 1)) (m * 3 + 1) (f m)) (m * 3 + 2) (s m) (i * 3 + 1) = _ ∧ upd (upd (upd (mRowsC cl f s td m) (m * 3) (nI (td + (m + 1)) - 1)) (m * 3 + 1) (f m)) (m * 3 + 2) (s m) (i * 3 + 2) = _
    by_cases e : i = m
    · subst e
      refine ⟨?_, ?_, ?_⟩
      · rw [upd_ne _ _ (by omega), upd_ne _ _ (by omega), upd_is]; show nI (td + i + 1) - 1 = _; rw [nI_pred]
      · rw [upd_ne _ _ (by omega), upd_is]
      · rw [upd_is]
    · obtain ⟨a, b, c⟩ := mRowsC_at (cl := cl) (f := f) (s := s) (td := td) m i (by omega)
      refine ⟨?_, ?_, ?_⟩
      · rw [upd_ne _ _ (by omega), upd_ne _ _ (by omega), upd_ne _ _ (by omega)]; exact a
      · rw [upd_ne _ _ (by omega), upd_ne _ _ (by omega), upd_ne _ _ (by omega)]; exact b
      · rw [upd_ne _ _ (by omega), upd_ne _ _ (by omega), upd_ne _ _ (by omega)]; exact c
/-- what findRows has found: k rows of three -/
def MuR (must ch ev lw : MA) (n d : Nat) (s0 : mT3) (k : Nat) : Prop := ∀ i : Nat, i < k → must (3 * i) = nI (d + i) ∧ must (3 * i + 1) = bDI ch ev lw n d s0 i ∧ must (3 * i + 2) = mSick (mGo (xC ch 0) (xC ch 1) (xC ch 2) (xC ch 3) ev lw n s0 d (i + 1)).1 n
theorem MuR_0 {must ch ev lw : MA} {n d : Nat} {s0 : mT3} : MuR must ch ev lw n d s0 0 := fun i hi => absurd hi (Nat.not_lt_zero i)
theorem MuR_s {must ch ev lw : MA} {n d k : Nat} {s0 : mT3} {a b c : Int32} (h : MuR must ch ev lw n d s0 k) (h0 : a = nI (d + k)) (h1 : b = bDI ch ev lw n d s0 k) (h2 : c = mSick (mGo (xC ch 0) (xC ch 1) (xC ch 2) (xC ch 3) ev lw n s0 d (k + 1)).1 n) : MuR (upd (upd (upd must (3 * k) a) (3 * k + 1) b) (3 * k + 2) c) ch ev lw n d s0 (k + 1) := fun i hi => by
  by_cases e : i = k
  · subst e
    refine ⟨?_, ?_, ?_⟩
    · rw [upd_ne _ _ (by omega), upd_ne _ _ (by omega), upd_is]; exact h0
    · rw [upd_ne _ _ (by omega), upd_is]; exact h1
    · rw [upd_is]; exact h2
  · obtain ⟨w0, w1, w2⟩ := h i (by omega)
    refine ⟨?_, ?_, ?_⟩
    · rw [upd_ne _ _ (by omega), upd_ne _ _ (by omega), upd_ne _ _ (by omega)]; exact w0
    · rw [upd_ne _ _ (by omega), upd_ne _ _ (by omega), upd_ne _ _ (by omega)]; exact w1
    · rw [upd_ne _ _ (by omega), upd_ne _ _ (by omega), upd_ne _ _ (by omega)]; exact w2
/-- one turn of findRows' loop -/
theorem go_fr {must ch X Y ev lw : MA} {n d k j : Nat} {s0 : mT3} {r : Int32} (hn : n ≤ 8) (H : (GoB ch X ev lw n 25 d k s0 ∧ d + k ≤ 40) ∧ MuR must ch ev lw n d s0 k) (hj : X 25 = nI j) (hj40 : j ≤ 40) (hb : ¬ 40 ≤ j) (Q : ∀ i : Nat, i < 40 → X 25 = nI i → r = mThere (xC ch 0) (xC ch 1) (xC ch 3) (xR X (25 + 1)) (xR X (25 + 9)) (xR X (25 + 17)) ev lw i n ∧ DayP ch X Y lw n 25 i r) : (GoB ch Y ev lw n 25 d (k + 1) s0 ∧ d + (k + 1) ≤ 40) ∧ MuR (upd (upd (upd must (3 * k) (nI j)) (3 * k + 1) r) (3 * k + 2) (mSick (xR Y (25 + 1)) n)) ch ev lw n d s0 (k + 1) := by
  obtain ⟨g1, g2, _, g4⟩ := go_b hn H.1 hj hj40 hb Q
  exact ⟨g1, MuR_s H.2 (by rw [g4]) g2 (mSick_cg g1.1.1.1)⟩
theorem cp_s {f g : MA} {k : Nat} {v : Int32} (h : ∀ j : Nat, j < k → f j = g j) (hv : v = g k) : ∀ j : Nat, j < k + 1 → upd f k v j = g j := fun j hj => by
  by_cases e : j = k
  · subst e; rw [upd_is]; exact hv
  · rw [upd_ne _ _ e]; exact h j (by omega)
section RW
variable {G : MG} {n : Nat} {ch row ev cr tr lw : MA} {z : Int32}
theorem RG.mu (H : RG G n ch row ev cr tr lw z) {must : MA} {k i : Nat} (h : MuR must ch ev lw n (gTd G) (s3R row 0) k) (hi : i < k) : must (3 * i) = nI (gTd G + i) ∧ must (3 * i + 1) = gDI G i ∧ must (3 * i + 2) = gSk G i := by
  obtain ⟨a, b, c⟩ := h i hi
  refine ⟨a, b.trans (H.di i), c.trans ?_⟩
  show _ = mSick _ (gN G)
  rw [← H.2.1.1]; exact mSick_cg (H.go3 (i + 1)).1
theorem RG.prove_no (_H : RG G n ch row ev cr tr lw z) {m : Int32} {W : MW} {q : Nat} {rows : MA} (h : ¬ okP m) (hW : RwR W q rows) : RwR (gProve m G W) q rows ∧ -1 = aProve m G := by
  unfold gProve aProve
  rw [if_neg h, if_neg h]; exact ⟨hW, rfl⟩
theorem RG.prove_ok (H : RG G n ch row ev cr tr lw z) {m k : Nat} {must rows : MA} {W : MW} (h1 : 1 ≤ m) (hm : m ≤ 20) (hk : k = min m (40 - gTd G)) (hM : MuR must ch ev lw n (gTd G) (s3R row 0) k) (hc : ∀ j : Nat, j < 3 * k → rows j = must j) : RwR (gProve (nI m) G W) k rows ∧ nI k = aProve (nI m) G := by
  have ek : gPk (nI m) G = k := by
    show min (nI m).toNatClampNeg (40 - gTd G) = k
    rw [nI_clamp (by omega), hk]
  unfold gProve aProve
  rw [if_pos (show okP (nI m) from ok1_n h1 hm), if_pos (show okP (nI m) from ok1_n h1 hm), ek]
  refine ⟨⟨⟨rfl, show k ≤ 20 by omega⟩, fun j hj => ?_⟩, rfl⟩
  have hj2 : j < 3 * k := hj
  show rows j = mRowsC W.1 (gDI G) (gSk G) (gTd G) k j
  rw [hc j hj2]
  obtain ⟨p, hp, w⟩ : ∃ p, p < k ∧ (j = 3 * p ∨ j = 3 * p + 1 ∨ j = 3 * p + 2) := ⟨j / 3, by omega, by omega⟩
  obtain ⟨a, b, c⟩ := H.mu hM hp
  obtain ⟨a2, b2, c2⟩ := mRowsC_at (cl := W.1) (f := gDI G) (s := gSk G) (td := gTd G) k p hp
  rw [Nat.mul_comm p 3] at a2 b2 c2
  rcases w with rfl | rfl | rfl
  · exact a.trans a2.symm
  · exact b.trans b2.symm
  · exact c.trans c2.symm
end RW
/-! ROW, ALTER -/
theorem nat_lt3 {x : Int32} {N : Nat} (h0 : ¬ x < 0) (h1 : x < nI N) (hN : N < 2 ^ 31) : ∃ k, k < N ∧ x = nI k := by
  obtain ⟨k, hk, rfl⟩ := nat_le h0 (fun q => Int32.lt_irrefl (Int32.lt_trans h1 q)) hN
  rw [Int32.lt_iff_toInt_lt, nI_toInt hN, nI_toInt (by omega)] at h1
  exact ⟨k, by omega, rfl⟩
theorem place_iff {q : Nat} {i w : Int32} (hq : q ≤ 20) : ((¬ i < 0 ∧ ¬ nI q - 1 < i) ∧ (¬ w < 0 ∧ ¬ 2 < w)) ↔ ¬ mPlace q i w < 0 := by
  have e1 : (nI q - 1).toInt = (q : Int) - 1 := by
    rw [show (1 : Int32) = nI 1 from rfl, pk_sub_toInt (by omega) (by omega)]; rfl
  unfold mPlace
  by_cases c : ¬ i < 0 ∧ ¬ nI q ≤ i ∧ ¬ w < 0 ∧ ¬ 3 ≤ w
  · rw [if_pos c]
    obtain ⟨k, hk, rfl⟩ := nat_lt3 (N := q) c.1 (Int32.not_le.mp c.2.1) (by omega)
    obtain ⟨v, hv, rfl⟩ := nat_lt3 (N := 3) c.2.2.1 (Int32.not_le.mp c.2.2.2) (by decide)
    have ep : nI k * 3 + nI v = nI (k * 3 + v) := by
      have e := mPlace_n hk hq hv
      unfold mPlace at e
      rw [if_pos c] at e; exact e
    rw [ep]
    refine ⟨fun _ => nI_pos (by omega), fun _ => ⟨⟨c.1, fun x => ?_⟩, c.2.2.1, fun x => ?_⟩⟩
    · simp only [Int32.lt_iff_toInt_lt, e1, nI_toInt (show k < 2 ^ 31 by omega)] at x; omega
    · simp only [Int32.lt_iff_toInt_lt, nI_toInt (show v < 2 ^ 31 by omega), show (2 : Int32).toInt = 2 from by decide] at x; omega
  · rw [if_neg c]
    refine ⟨fun h => absurd ?_ c, fun h => absurd (show (-1 : Int32) < 0 by decide) h⟩
    refine ⟨h.1.1, fun x => h.1.2 ?_, h.2.1, fun x => h.2.2 ?_⟩
    · rw [Int32.lt_iff_toInt_lt, e1]
      simp only [Int32.le_iff_toInt_le, nI_toInt (show q < 2 ^ 31 by omega)] at x; omega
    · simp only [Int32.lt_iff_toInt_lt, show (2 : Int32).toInt = 2 from by decide]
      simp only [Int32.le_iff_toInt_le, show (3 : Int32).toInt = 3 from by decide] at x; omega
section RO
variable {W : MW} {q : Nat} {rows : MA}
theorem RwR.row_no (H : RwR W q rows) {i w : Int32} (h : ¬ ((¬ i < 0 ∧ ¬ nI q - 1 < i) ∧ (¬ w < 0 ∧ ¬ 2 < w))) : -9 = aRow i w W := by
  have e : mPlace W.2 i w < 0 := Classical.byContradiction fun x => h ((place_iff (by have := H.1; omega)).mpr (by rw [H.1.1]; exact x))
  unfold aRow
  rw [if_pos e]
theorem RwR.row_ok (H : RwR W q rows) {k v p : Nat} (hk : k < q) (hv : v < 3) (hp : p = 3 * k + v) : rows p = aRow (nI k) (nI v) W := by
  have e := mPlace_n (rn := W.2) (k := k) (w := v) (by rw [← H.1.1]; exact hk) H.1.2 hv
  unfold aRow
  rw [e, if_neg (nI_pos (by have := H.1; omega)), nI_clamp (by have := H.1; omega), hp, H.2 (3 * k + v) (by have := H.1; omega), Nat.mul_comm 3 k]
theorem RwR.alter_no (H : RwR W q rows) {i w v : Int32} (h : ¬ ((¬ i < 0 ∧ ¬ nI q - 1 < i) ∧ (¬ w < 0 ∧ ¬ 2 < w))) : RwR (gAlter i w v W) q rows ∧ -9 = aRow i w W := by
  have e : mPlace W.2 i w < 0 := Classical.byContradiction fun x => h ((place_iff (by have := H.1; omega)).mpr (by rw [H.1.1]; exact x))
  refine ⟨?_, H.row_no h⟩
  unfold gAlter
  rw [if_pos e]; exact H
theorem RwR.alter_ok (H : RwR W q rows) {k v p : Nat} {x : Int32} (hk : k < q) (hv : v < 3) (hp : p = 3 * k + v) : RwR (gAlter (nI k) (nI v) x W) q (upd rows p x) ∧ rows p = aRow (nI k) (nI v) W := by
  have e := mPlace_n (rn := W.2) (k := k) (w := v) (by rw [← H.1.1]; exact hk) H.1.2 hv
  refine ⟨?_, H.row_ok hk hv hp⟩
  unfold gAlter
  rw [e, if_neg (nI_pos (by have := H.1; omega)), nI_clamp (by have := H.1; omega), Nat.mul_comm k 3, ← hp]
  refine ⟨H.1, fun j hj => ?_⟩
  show upd rows p x j = upd W.1 p x j
  by_cases e2 : j = p
  · subst e2; rw [upd_is, upd_is]
  · rw [upd_ne _ _ e2, upd_ne _ _ e2]; exact H.2 j hj
end RO
/-! JUDGE, by what findRows has found -/
def JuE (rows must : MA) (mm i : Nat) : Prop := i < mm ∧ rows (3 * i) = must (3 * i) ∧ rows (3 * i + 1) = must (3 * i + 1) ∧ rows (3 * i + 2) = must (3 * i + 2)
def JuA (rows must : MA) (mm i : Nat) : Prop := ∀ j : Nat, j < i → JuE rows must mm j
def JuB (rows must : MA) (mm i k : Nat) (s : Int32) : Prop := (s = 0 ∧ ¬ JuE rows must mm i) ∨ (s = 1 ∧ i < mm ∧ ∀ j : Nat, j < k → rows (3 * i + j) = must (3 * i + j))
theorem JuA_0 {rows must : MA} {mm : Nat} : JuA rows must mm 0 := fun j hj => absurd hj (Nat.not_lt_zero j)
theorem JuA_s {rows must : MA} {mm i : Nat} (h : JuA rows must mm i) (hi : JuE rows must mm i) : JuA rows must mm (i + 1) := fun j hj => by
  by_cases e : j = i
  · rw [e]; exact hi
  · exact h j (by omega)
theorem JuB_0 {rows must : MA} {mm i : Nat} (h : i < mm) : JuB rows must mm i 0 1 := Or.inr ⟨rfl, h, fun j hj => absurd hj (Nat.not_lt_zero j)⟩
theorem JuB_n {rows must : MA} {mm i : Nat} (h : ¬ i < mm) : JuB rows must mm i 0 0 := Or.inl ⟨rfl, fun e => h e.1⟩
theorem JuB_y {rows must : MA} {mm i k : Nat} {s : Int32} (h : JuB rows must mm i k s) (hs : ¬ s = 0) (he : rows (3 * i + k) = must (3 * i + k)) : JuB rows must mm i (k + 1) 1 := by
  rcases h with ⟨e, _⟩ | ⟨_, h1, h2⟩
  · exact absurd e hs
  · refine Or.inr ⟨rfl, h1, fun j hj => ?_⟩
    by_cases e : j = k
    · rw [e]; exact he
    · exact h2 j (by omega)
theorem JuB_x {rows must : MA} {mm i k : Nat} {s : Int32} (h : JuB rows must mm i k s) (hs : ¬ s = 0) (hk : k < 3) (he : ¬ rows (3 * i + k) = must (3 * i + k)) : JuB rows must mm i (k + 1) 0 := by
  rcases h with ⟨e, _⟩ | ⟨_, h1, h2⟩
  · exact absurd e hs
  · refine Or.inl ⟨rfl, fun q => he ?_⟩
    obtain ⟨_, q0, q1, q2⟩ := q
    rcases (show k = 0 ∨ k = 1 ∨ k = 2 from by omega) with rfl | rfl | rfl
    · exact q0
    · exact q1
    · exact q2
theorem JuB_e {rows must : MA} {mm i k : Nat} {s : Int32} (h : JuB rows must mm i k s) (hs : ¬ s = 0) (hk : k = 3) : JuE rows must mm i := by
  rcases h with ⟨e, _⟩ | ⟨_, h1, h2⟩
  · exact absurd e hs
  · exact ⟨h1, h2 0 (by omega), h2 1 (by omega), h2 2 (by omega)⟩
theorem JuB_f {rows must : MA} {mm i k : Nat} {s : Int32} (h : JuB rows must mm i k s) (hs : s = 0) : ¬ JuE rows must mm i := by
  rcases h with ⟨_, e⟩ | ⟨e, _⟩
  · exact e
  · exact absurd (e.symm.trans hs) (by decide)
section JU
variable {G : MG} {n : Nat} {ch row ev cr tr lw : MA} {z : Int32}
theorem RG.ju_iff (H : RG G n ch row ev cr tr lw z) {W : MW} {q mm i : Nat} {rows must : MA} (hW : RwR W q rows) (hm : mm = min q (40 - gTd G)) (hM : MuR must ch ev lw n (gTd G) (s3R row 0) mm) (hi : i < q) : wF G W i = false ↔ JuE rows must mm i := by
  have e0 : nI (gTd G + (i + 1)) - 1 = nI (gTd G + i) := by
    show nI (gTd G + i + 1) - 1 = _; rw [nI_pred]
  have r0 := hW.2 (3 * i) (by have := hW.1; omega)
  have r1 := hW.2 (3 * i + 1) (by have := hW.1; omega)
  have r2 := hW.2 (3 * i + 2) (by have := hW.1; omega)
  show (decide (40 ≤ gTd G + i) || !decide (W.1 (i * 3) = nI (gTd G + (i + 1)) - 1 ∧ W.1 (i * 3 + 1) = gDI G i ∧ W.1 (i * 3 + 2) = gSk G i)) = false ↔ _
  rw [Bool.or_eq_false_iff, decide_eq_false_iff_not, Bool.not_eq_false', decide_eq_true_iff, Nat.mul_comm i 3, ← r0, ← r1, ← r2, e0]
  unfold JuE
  refine ⟨fun h => ?_, fun h => ?_⟩
  · obtain ⟨a, b, c⟩ := H.mu hM (i := i) (by omega)
    exact ⟨by omega, h.2.1.trans a.symm, h.2.2.1.trans b.symm, h.2.2.2.trans c.symm⟩
  · obtain ⟨a, b, c⟩ := H.mu hM h.1
    exact ⟨by omega, h.2.1.trans a, h.2.2.1.trans b, h.2.2.2.trans c⟩
theorem RG.judge_y (H : RG G n ch row ev cr tr lw z) {W : MW} {q mm i : Nat} {rows must : MA} (hW : RwR W q rows) (hm : mm = min q (40 - gTd G)) (hM : MuR must ch ev lw n (gTd G) (s3R row 0) mm) (hi : i < q) (hA : JuA rows must mm i) (hB : ¬ JuE rows must mm i) : nI (i + 1) = aJudge G W := by
  unfold aJudge
  rw [mFirst_yes (f := wF G W) (k := i) (fun j hj => (H.ju_iff hW hm hM (by omega)).mpr (hA j hj)) (by
    cases e : wF G W i
    · exact absurd ((H.ju_iff hW hm hM hi).mp e) hB
    · rfl) W.2 (by rw [← hW.1.1]; exact hi)]
  rw [nI_succ]
theorem RG.judge_n (H : RG G n ch row ev cr tr lw z) {W : MW} {q mm i : Nat} {rows must : MA} (hW : RwR W q rows) (hm : mm = min q (40 - gTd G)) (hM : MuR must ch ev lw n (gTd G) (s3R row 0) mm) (hi : i = q) (hA : JuA rows must mm i) : 0 = aJudge G W := by
  unfold aJudge
  rw [mFirst_no (f := wF G W) (fun j hj => (H.ju_iff hW hm hM (by rw [hW.1.1]; exact hj)).mpr (hA j (by rw [hi, hW.1.1]; exact hj)))]
  decide
end JU
/-! ITEM -/
def mItR (s t i : Int32) (so ln : Nat → Int32) (it : Nat → Nat → Int64) : Int32 := if (s < 0 ∨ 3 < s) ∨ (t < 0 ∨ 3 < t) then -1 else if so s.toNatClampNeg < 0 then -11 else if ¬ so s.toNatClampNeg = t then -13 else if i < 0 ∨ ln s.toNatClampNeg - 1 < i then -12 else (it s.toNatClampNeg i.toNatClampNeg).toInt32
def mItC (s t i : Int32) (so ln : Nat → Int32) (it : Nat → Nat → Int64) : Int32 := if (s < 0 ∨ ¬ s < 4) ∨ (t < 0 ∨ ¬ t < 4) then -1 else if so s.toNatClampNeg = -1 then -11 else if ¬ so s.toNatClampNeg = t then -13 else if i < 0 ∨ ¬ i < ln s.toNatClampNeg then -12 else (it s.toNatClampNeg i.toNatClampNeg).toInt32
