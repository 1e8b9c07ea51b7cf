/-! shelves and acts, told alike on both sides -/
section SCG
variable {s w m o : Int32} {n j : Nat} {so ln so2 ln2 : MA}
theorem sh_in (h : mShC s w m n = 1) : (¬ s < 0 ∧ s < 4) ∧ (w = 0 ∨ (w = 1 ∧ ¬ m < 0 ∧ m < 4) ∨ w = 2) := by
  unfold mShC at h
  split at h
  · exact absurd h (by decide)
  · split at h
    · exact absurd h (by decide)
    · grind
theorem sh_at (hc : ∀ j : Nat, j < 4 → so j = so2 j ∧ ln j = ln2 j) (h : mShC s w m n = 1) (hw : w = 1) : so m.toNatClampNeg = so2 m.toNatClampNeg ∧ ln m.toNatClampNeg = ln2 m.toNatClampNeg := by
  obtain ⟨_, q⟩ := sh_in h
  have q2 : ¬ m < 0 ∧ m < 4 := by
    rcases q with e | e | e
    · exact absurd (hw.symm.trans e) (by decide)
    · exact e.2
    · exact absurd (hw.symm.trans e) (by decide)
  obtain ⟨v, hv, rfl⟩ := nat_lt3 (N := 4) q2.1 q2.2 (by decide)
  rw [nI_clamp (by omega)]; exact hc v hv
theorem mHo_cg (hc : ∀ j : Nat, j < 4 → so j = so2 j ∧ ln j = ln2 j) : mHo (mShC s w m n) s w m so j o = mHo (mShC s w m n) s w m so2 j o := by
  unfold mHo
  by_cases e : mShC s w m n = 1 ∧ s = nI j
  · rw [if_pos e, if_pos e]
    by_cases q : w = 1
    · rw [(sh_at hc e.1 q).1]
    · simp only [q, false_and, if_false]
  · rw [if_neg e, if_neg e]
theorem mNu_cg (hc : ∀ j : Nat, j < 4 → so j = so2 j ∧ ln j = ln2 j) : mNu (mShC s w m n) s w m so ln j o = mNu (mShC s w m n) s w m so2 ln2 j o := by
  unfold mNu
  by_cases e : mShC s w m n = 1 ∧ s = nI j
  · rw [if_pos e, if_pos e]
    by_cases q : w = 1
    · rw [(sh_at hc e.1 q).1, (sh_at hc e.1 q).2]
    · simp only [q, false_and, if_false]
  · rw [if_neg e, if_neg e]
theorem mSs_cg (hc : ∀ j : Nat, j < 4 → so j = so2 j ∧ ln j = ln2 j) : mSs (mShC s w m n) s w m so j o = mSs (mShC s w m n) s w m so2 j o := by
  unfold mSs
  by_cases e : mShC s w m n = 1 ∧ s = nI j
  · rw [if_pos e, if_pos e]
    by_cases q : w = 1
    · rw [(sh_at hc e.1 q).1]
    · simp only [q, false_and, if_false]
  · rw [if_neg e, if_neg e]
theorem gShelf_cg {H : MH} (hc : ∀ j : Nat, j < 4 → so j = so2 j ∧ ln j = ln2 j) : gShelf (mShC s w m n) s w m so ln H = gShelf (mShC s w m n) s w m so2 ln2 H := by
  unfold gShelf
  by_cases e : mShC s w m n = 1
  · rw [if_pos e, if_pos e]
    by_cases q : w = 1
    · rw [(sh_at hc e q).1, (sh_at hc e q).2]
    · simp only [q, false_and, if_false]
  · rw [if_neg e, if_neg e]
theorem gShelf_R {r : Int32} {X A H : MH} (hp : X = gShelf r s w m so ln A) (hr : r = mShC s w m n) (hA : A = H) (hc : ∀ j : Nat, j < 4 → so j = so2 j ∧ ln j = ln2 j) : X = gShelf (mShC s w m n) s w m so2 ln2 H := by
  rw [hp, hr, hA]; exact gShelf_cg hc
def ShvI (H : MH) : Prop := ∀ j : Nat, j < 4 → H.1 j = -1 ∨ H.1 j = 0 ∨ H.1 j = 1
theorem ShvI.shelf {H : MH} (h : ShvI H) : ShvI (gShelf (mShC s w m n) s w m so ln H) := fun j hj => by
  unfold gShelf
  by_cases e : mShC s w m n = 1
  · rw [if_pos e]
    show upd H.1 s.toNatClampNeg (if w = 2 ∨ (w = 1 ∧ so m.toNatClampNeg < 0) then -1 else w) j = -1 ∨ upd H.1 s.toNatClampNeg (if w = 2 ∨ (w = 1 ∧ so m.toNatClampNeg < 0) then -1 else w) j = 0 ∨ upd H.1 s.toNatClampNeg (if w = 2 ∨ (w = 1 ∧ so m.toNatClampNeg < 0) then -1 else w) j = 1
    by_cases q : j = s.toNatClampNeg
    · rw [upd_at _ q]
      by_cases c : w = 2 ∨ (w = 1 ∧ so m.toNatClampNeg < 0)
      · rw [if_pos c]; exact Or.inl rfl
      · rw [if_neg c]
        rcases (sh_in e).2 with x | x | x
        · exact Or.inr (Or.inl x)
        · exact Or.inr (Or.inr x.1)
        · exact absurd (Or.inl x) c
    · rw [upd_ne _ _ q]; exact h j hj
  · rw [if_neg e]; exact h j hj
end SCG
theorem ShvC.cls {H : MH} {so2 ln2 : MA} {a0 a1 a2 a3 b0 b1 b2 b3 c0 c1 c2 c3 x0 x1 x2 x3 y0 y1 y2 y3 z0 z1 z2 z3 r s w m so0 so1 so2_ so3 l0 l1 l2 l3 : Int32} {n : Nat} (h : ShvC H (v4 a0 a1 a2 a3) (v4 b0 b1 b2 b3) (v4 c0 c1 c2 c3)) (hc : ∀ j : Nat, j < 4 → v4 so0 so1 so2_ so3 j = so2 j ∧ v4 l0 l1 l2 l3 j = ln2 j) (hI : ∀ j : Nat, j < 4 → so2 j = -1 ∨ ¬ so2 j < 0) (hr : r = mShC s w m n)
    (e0 : x0 = mHo r s w m (v4 so0 so1 so2_ so3) 0 a0) (f0 : y0 = mNu r s w m (v4 so0 so1 so2_ so3) (v4 l0 l1 l2 l3) 0 b0) (g0 : z0 = mSs r s w m (v4 so0 so1 so2_ so3) 0 c0)
    (e1 : x1 = mHo r s w m (v4 so0 so1 so2_ so3) 1 a1) (f1 : y1 = mNu r s w m (v4 so0 so1 so2_ so3) (v4 l0 l1 l2 l3) 1 b1) (g1 : z1 = mSs r s w m (v4 so0 so1 so2_ so3) 1 c1)
    (e2 : x2 = mHo r s w m (v4 so0 so1 so2_ so3) 2 a2) (f2 : y2 = mNu r s w m (v4 so0 so1 so2_ so3) (v4 l0 l1 l2 l3) 2 b2) (g2 : z2 = mSs r s w m (v4 so0 so1 so2_ so3) 2 c2)
    (e3 : x3 = mHo r s w m (v4 so0 so1 so2_ so3) 3 a3) (f3 : y3 = mNu r s w m (v4 so0 so1 so2_ so3) (v4 l0 l1 l2 l3) 3 b3) (g3 : z3 = mSs r s w m (v4 so0 so1 so2_ so3) 3 c3) :
    ShvC (gShelf (mShC s w m n) s w m so2 ln2 H) (v4 x0 x1 x2 x3) (v4 y0 y1 y2 y3) (v4 z0 z1 z2 z3) := fun j hj => by
  subst hr
  rw [mHo_cg hc] at e0 e1 e2 e3
  rw [mNu_cg hc] at f0 f1 f2 f3
  rw [mSs_cg hc] at g0 g1 g2 g3
  have q := h.shelf (ln := ln2) hI (rfl : mShC s w m n = mShC s w m n) j hj
  rcases (show j = 0 ∨ j = 1 ∨ j = 2 ∨ j = 3 from by omega) with rfl | rfl | rfl | rfl
  · rw [show v4 x0 x1 x2 x3 0 = x0 from rfl, show v4 y0 y1 y2 y3 0 = y0 from rfl, show v4 z0 z1 z2 z3 0 = z0 from rfl, e0, f0, g0]; exact q
  · rw [show v4 x0 x1 x2 x3 1 = x1 from rfl, show v4 y0 y1 y2 y3 1 = y1 from rfl, show v4 z0 z1 z2 z3 1 = z1 from rfl, e1, f1, g1]; exact q
  · rw [show v4 x0 x1 x2 x3 2 = x2 from rfl, show v4 y0 y1 y2 y3 2 = y2 from rfl, show v4 z0 z1 z2 z3 2 = z2 from rfl, e2, f2, g2]; exact q
  · rw [show v4 x0 x1 x2 x3 3 = x3 from rfl, show v4 y0 y1 y2 y3 3 = y3 from rfl, show v4 z0 z1 z2 z3 3 = z3 from rfl, e3, f3, g3]; exact q
/-! TAKEN, the same -/
def aTaken (s x : Int32) (G : MG) (H : MH) : Int32 := if (s < 0 ∨ ¬ s < 4) ∨ (¬ (¬ x < 0 ∧ x < 6) ∧ ¬ (¬ x - 10 < 0 ∧ x - 10 < 4)) then -1 else if H.1 s.toNatClampNeg = 1 then (if H.2.1 s.toNatClampNeg = x - 10 then H.2.2 s.toNatClampNeg else -13) else if ¬ (H.1 s.toNatClampNeg = 0 ∧ okN (H.2.1 s.toNatClampNeg) (gN G)) then -11 else if (¬ x < 0 ∧ x < 6) ∧ mUd x 3 (gKd G (H.2.1 s.toNatClampNeg).toNatClampNeg) = true then H.2.1 s.toNatClampNeg else -13
theorem tak_C {H : MH} {hs nu ss : MA} (h : ShvC H hs nu ss) (s x : Int32) (G : MG) : aTakC s x G hs nu ss = aTaken s x G H := by
  unfold aTakC aTaken
  by_cases q : (s < 0 ∨ ¬ s < 4) ∨ (¬ (¬ x < 0 ∧ x < 6) ∧ ¬ (¬ x - 10 < 0 ∧ x - 10 < 4))
  · rw [if_pos q, if_pos q]
  · rw [if_neg q, if_neg q]
    obtain ⟨k, hk, rfl⟩ := nat_lt3 (N := 4) (fun z => q (Or.inl (Or.inl z))) (Classical.byContradiction fun z => q (Or.inl (Or.inr z))) (by decide)
    rw [nI_clamp (by omega)]
    rcases h k hk with ⟨h1, h2⟩ | ⟨h1, h2, h3⟩ | ⟨h1, h2, h3, h4⟩
    · rw [h1, h2, if_neg (show ¬ (2 : Int32) = 1 by decide), if_neg (show ¬ (-1 : Int32) = 1 by decide), if_pos (show ¬ ((2 : Int32) = 0 ∧ okN (nu k) (gN G)) from fun z => absurd z.1 (by decide)), if_pos (show ¬ ((-1 : Int32) = 0 ∧ okN (H.2.1 k) (gN G)) from fun z => absurd z.1 (by decide))]
    · rw [h1, h2, h3, if_neg (show ¬ (0 : Int32) = 1 by decide), if_neg (show ¬ (0 : Int32) = 1 by decide)]
    · rw [h1, h2, h3, h4, if_pos rfl, if_pos rfl]
theorem x10_iff {x : Int32} : (¬ x - 10 < 0 ∧ x - 10 < 4) ↔ (¬ x < 10 ∧ ¬ 13 < x) := by
  have e : (x - 10).toInt = (x.toInt - 10).bmod (2 ^ 32) := by rw [Int32.toInt_sub]; rfl
  have b1 := Int32.le_toInt x
  have b2 := Int32.toInt_lt x
  simp only [Int32.lt_iff_toInt_lt, e, show (0 : Int32).toInt = 0 from by decide, show (4 : Int32).toInt = 4 from by decide, show (10 : Int32).toInt = 10 from by decide, show (13 : Int32).toInt = 13 from by decide]
  unfold Int.bmod
  simp only []
  split <;> omega
theorem x6_iff {x : Int32} : (¬ x < 0 ∧ x < 6) ↔ (¬ x < 0 ∧ ¬ 5 < x) := by
  simp only [Int32.lt_iff_toInt_lt, show (0 : Int32).toInt = 0 from by decide, show (5 : Int32).toInt = 5 from by decide, show (6 : Int32).toInt = 6 from by decide]; omega
theorem x4_iff {x : Int32} : (¬ x < 0 ∧ x < 4) ↔ (¬ x < 0 ∧ ¬ 3 < x) := by
  simp only [Int32.lt_iff_toInt_lt, show (0 : Int32).toInt = 0 from by decide, show (3 : Int32).toInt = 3 from by decide, show (4 : Int32).toInt = 4 from by decide]; omega
theorem xs_iff {x h : Int32} : (x = 10 + h) ↔ (h = x - 10) :=
  ⟨fun e => by rw [e, Int32.add_comm, Int32.add_sub_cancel], fun e => by rw [e, Int32.add_comm, Int32.sub_add_cancel]⟩
section KON
variable {G : MG} {n : Nat} {ch row ev cr tr lw : MA} {z : Int32} {hd hn hz : MA}
/-- the child on a shelf: its number, its kind, its a -/
theorem RG.held (H : RG G n ch row ev cr tr lw z) {x : Int32} (h : okN x (gN G)) : ∃ c k : Nat, c < gN G ∧ x = nI c ∧ k < 6 ∧ gKd G c = nI k ∧ ch (4 * c + 0) = nI k ∧ ch (4 * c + 1) = gKa G c := by
  have h8 := H.n8
  have hN := H.2.1.1
  obtain ⟨c, hc, e⟩ := nat_lt3 h.1 h.2 (by omega)
  obtain ⟨k, hk, e2⟩ := (H.1.2.1 c hc).1.1
  exact ⟨c, k, hc, e, hk, e2, (H.2.2.1.1 c (by omega)).trans e2, H.2.2.1.2.1 c (by omega)⟩
theorem RG.kon (H : RG G n ch row ev cr tr lw z) (hI : ShvI (hd, hn, hz)) {k : Nat} (hk : k < 4) : kOn hd hn ch n k = if hd k = 1 then 9 else if hd k = 0 ∧ okN (hn k) (gN G) then gKd G (hn k).toNatClampNeg else -1 := by
  have h8 := H.n8
  have hN := H.2.1.1
  unfold kOn
  rcases hI k hk with h | h | h
  · have h : hd k = -1 := h
    rw [h, if_neg (by decide), if_pos (by decide), if_neg (by decide), if_neg (fun q => absurd q.1 (by decide))]
  · have h : hd k = 0 := h
    rw [h, if_pos rfl, if_neg (show ¬ (0 : Int32) = 1 by decide)]
    by_cases q : okN (hn k) (gN G)
    · obtain ⟨c, k2, hc, e, hk2, e2, e3, e4⟩ := H.held q
      rw [if_pos ((okN_iff (by omega)).mpr (hN ▸ q)), if_pos ⟨rfl, q⟩, e, nI_clamp (by omega), e3, e2]
    · rw [if_neg (fun w => q (hN ▸ (okN_iff (by omega)).mp w)), if_neg (fun w => q w.2)]
  · have h : hd k = 1 := h
    rw [h, if_neg (by decide), if_neg (by decide), if_pos rfl]
theorem kd_in {k : Nat} (hk : k < 6) : ¬ nI k < 0 ∧ ¬ 5 < nI k ∧ ¬ nI k = 9 := by
  refine ⟨nI_pos (by omega), nI_nlt (a := 5) (b := k) (by omega) (by decide), fun e => ?_⟩
  exact absurd ((nI_eq (a := k) (b := 9) (by omega) (by decide)).mp e) (by omega)
theorem RG.tak (H : RG G n ch row ev cr tr lw z) (hI : ShvI (hd, hn, hz)) (s x : Int32) : aTakR s x hd hn hz ch n = aTaken s x G (hd, hn, hz) := by
  have h8 := H.n8
  have hN := H.2.1.1
  unfold aTakR aTaken
  have q1 : ((s < 0 ∨ 3 < s) ∨ (¬ (¬ x < 0 ∧ ¬ 5 < x) ∧ ¬ (¬ x < 10 ∧ ¬ 13 < x))) ↔ ((s < 0 ∨ ¬ s < 4) ∨ (¬ (¬ x < 0 ∧ x < 6) ∧ ¬ (¬ x - 10 < 0 ∧ x - 10 < 4))) := by
    rw [x10_iff, x6_iff]
    have e := @x4_iff s
    grind
  by_cases q : (s < 0 ∨ ¬ s < 4) ∨ (¬ (¬ x < 0 ∧ x < 6) ∧ ¬ (¬ x - 10 < 0 ∧ x - 10 < 4))
  · rw [if_pos q, if_pos (q1.mpr q)]
  · rw [if_neg q, if_neg (fun w => q (q1.mp w))]
    have hx : (¬ x < 0 ∧ x < 6) ∨ (¬ x < 10 ∧ ¬ 13 < x) := by
      rw [x10_iff] at q
      exact Classical.byContradiction fun w => q (Or.inr ⟨fun y => w (Or.inl y), fun y => w (Or.inr y)⟩)
    obtain ⟨k, hk, rfl⟩ := nat_lt3 (N := 4) (fun z => q (Or.inl (Or.inl z))) (Classical.byContradiction fun z => q (Or.inl (Or.inr z))) (by decide)
    rw [nI_clamp (by omega), H.kon hI hk]
    by_cases r1 : hd k = 1
    · rw [if_pos r1, if_neg (by decide), if_pos rfl, if_pos r1]
      by_cases e : x = 10 + hn k
      · rw [if_pos e, if_pos (xs_iff.mp e)]
      · rw [if_neg e, if_neg (fun w => e (xs_iff.mpr w))]
    · rw [if_neg r1, if_neg (show ¬ (hd, hn, hz).1 k = 1 from r1)]
      by_cases r2 : hd k = 0 ∧ okN (hn k) (gN G)
      · obtain ⟨c, k2, hc, e, hk2, e2, e3, e4⟩ := H.held r2.2
        obtain ⟨d1, d2, d3⟩ := kd_in hk2
        rw [if_pos r2, if_neg (show ¬ ¬ (((hd, hn, hz) : MH).1 k = 0 ∧ okN (((hd, hn, hz) : MH).2.1 k) (gN G)) from fun w => w r2)]
        show (if gKd G (hn k).toNatClampNeg < 0 then _ else _) = (if (¬ x < 0 ∧ x < 6) ∧ mUd x 3 (gKd G (hn k).toNatClampNeg) = true then hn k else -13)
        rw [e, nI_clamp (by omega), e2, if_neg d1, if_neg d3]
        have w : (x < 10 ∧ uR (nI k2) x) ↔ ((¬ x < 0 ∧ x < 6) ∧ mUd x 3 (nI k2) = true) := by
          rcases hx with y | y
          · obtain ⟨a, ha, rfl⟩ := nat_lt3 (N := 6) y.1 y.2 (by decide)
            rw [ud_eq k2 hk2 a ha]
            exact ⟨fun v => ⟨y, v.2⟩, fun v => ⟨nI_lt (b := 10) (by omega) (by decide), v.2⟩⟩
          · refine ⟨fun v => absurd v.1 y.1, fun v => absurd ?_ y.1⟩
            have v2 := v.1.2
            rw [Int32.lt_iff_toInt_lt] at v2 ⊢
            rw [show (6 : Int32).toInt = 6 from by decide] at v2
            rw [show (10 : Int32).toInt = 10 from by decide]; omega
        by_cases v : x < 10 ∧ uR (nI k2) x
        · rw [if_pos v, if_pos (w.mp v)]
        · rw [if_neg v, if_neg (fun y => v (w.mpr y))]
      · rw [if_neg r2, if_pos (by decide), if_pos r2]
theorem tak_R {A H : MH} (HG : RG G n ch row ev cr tr lw z) (hA : A = H) (hI : ShvI H) (s x : Int32) : aTakR s x A.1 A.2.1 A.2.2 ch n = aTaken s x G H := by
  subst hA; exact HG.tak hI s x
end KON
/-! ACT, the same -/
theorem act_C {H : MH} {hs nu ss : MA} (h : ShvC H hs nu ss) (s a x : Int32) (G : MG) (tc : MA) : aActC s a x G hs nu = aActC s a x G H.1 H.2.1 ∧ TrA (gActC s a x G H.1 H.2.1 (fun _ => 0)) (gActC s a x G hs nu tc) := by
  have hk : (¬ s < 0 ∧ s < 4) → (hs s.toNatClampNeg = 0 ↔ H.1 s.toNatClampNeg = 0) ∧ (H.1 s.toNatClampNeg = 0 → nu s.toNatClampNeg = H.2.1 s.toNatClampNeg) := fun q => by
    obtain ⟨k, hk, rfl⟩ := nat_lt3 (N := 4) q.1 q.2 (by decide)
    rw [nI_clamp (by omega)]
    rcases h k hk with ⟨h1, h2⟩ | ⟨h1, h2, h3⟩ | ⟨h1, h2, h3, h4⟩
    · rw [h1, h2]; exact ⟨⟨fun z => absurd z (by decide), fun z => absurd z (by decide)⟩, fun z => absurd z (by decide)⟩
    · rw [h1, h2, h3]; exact ⟨Iff.rfl, fun _ => rfl⟩
    · rw [h1, h2]; exact ⟨⟨fun z => absurd z (by decide), fun z => absurd z (by decide)⟩, fun z => absurd z (by decide)⟩
  unfold aActC gActC qAct
  by_cases q : okActC s a (gN G) H.1 H.2.1
  · obtain ⟨e1, e2⟩ := hk q.1
    have e3 := e2 q.2.2.1
    have q2 : okActC s a (gN G) hs nu := ⟨q.1, q.2.1, e1.mpr q.2.2.1, by rw [e3]; exact q.2.2.2⟩
    rw [if_pos q, if_pos q2, if_pos q, if_pos q2, e3]
    exact ⟨rfl, TrA.pushes _ TrA_0⟩
  · have q2 : ¬ okActC s a (gN G) hs nu := fun z => q (by
      obtain ⟨e1, e2⟩ := hk z.1
      have z0 := e1.mp z.2.2.1
      have e3 := e2 z0
      exact ⟨z.1, z.2.1, z0, by rw [← e3]; exact z.2.2.2⟩)
    rw [if_neg q, if_neg q2, if_neg q, if_neg q2]; exact ⟨rfl, TrA_0⟩
theorem act_C2 {H : MH} {hs nu ss tc : MA} {G G2 : MG} {T : MT} {r s a x : Int32} (hG : G = G2) (h : ShvC H hs nu ss) (hf : ((r, T) : Int32 × MT) = (aActC s a x G2 hs nu, gActC s a x G2 hs nu tc)) : r = aActC s a x G H.1 H.2.1 ∧ TrA (gActC s a x G H.1 H.2.1 (fun _ => 0)) T := by
  subst hG
  obtain ⟨q1, q2⟩ := act_C h s a x G tc
  have e1 : r = aActC s a x G hs nu := congrArg Prod.fst hf
  have e2 : T = gActC s a x G hs nu tc := congrArg Prod.snd hf
  rw [e1, e2]; exact ⟨q1, q2⟩
theorem RG.act {G : MG} {n : Nat} {ch row ev cr tr lw : MA} {z : Int32} {hd hn hz tc : MA} (H : RG G n ch row ev cr tr lw z) (hI : ShvI (hd, hn, hz)) (s a x : Int32) : aActR s a x hd hn ch n = aActC s a x G hd hn ∧ TrA (gActC s a x G hd hn (fun _ => 0)) (gActR s a x hd hn ch n tc) := by
  unfold aActR gActR aActC gActC
  by_cases q : okActC s a (gN G) hd hn
  · have q' := q
    obtain ⟨⟨s0, s4⟩, ⟨a0, a4⟩, h0, hN⟩ := q'
    obtain ⟨k, hk, rfl⟩ := nat_lt3 (N := 4) s0 s4 (by decide)
    obtain ⟨m, hm, rfl⟩ := nat_lt3 (N := 4) a0 (Int32.not_le.mp a4) (by decide)
    have ek : (nI k).toNatClampNeg = k := nI_clamp (by omega)
    rw [ek] at h0 hN
    obtain ⟨c, k2, hc, e, hk2, e2, e3, e4⟩ := H.held hN
    have h8 := H.n8
    have hN2 := H.2.1.1
    have ec : (nI c).toNatClampNeg = c := nI_clamp (by omega)
    have ekon : kOn hd hn ch n k = nI k2 := by
      rw [H.kon hI hk, if_neg (fun w => absurd (h0.symm.trans w) (by decide)), if_pos ⟨h0, hN⟩, e, ec, e2]
    have q2 : okActR (nI k) (nI m) hd hn ch n := by
      unfold okActR
      rw [ek, ekon]
      exact ⟨⟨s0, (x4_iff.mp ⟨s0, s4⟩).2⟩, ⟨a0, nI_nlt (a := 3) (b := m) (by omega) (by decide)⟩, (kd_in hk2).1, (kd_in hk2).2.1⟩
    have eq : qActR (nI k) (nI m) x hd hn ch n = qAct (nI k) (nI m) x G hn := by
      unfold qActR qAct
      rw [ek, ekon, e, ec, e2, e4]
      exact (act_eq k2 hk2 m hm).symm
    rw [if_pos q, if_pos q2, if_pos q, if_pos q2, eq]
    exact ⟨rfl, TrA.pushes _ TrA_0⟩
  · have q2 : ¬ okActR s a hd hn ch n := fun w => q (by
      obtain ⟨⟨s0, s3⟩, ⟨a0, a3⟩, w1, w2⟩ := w
      have hs := x4_iff.mpr ⟨s0, s3⟩
      have ha := x4_iff.mpr ⟨a0, a3⟩
      obtain ⟨k, hk, rfl⟩ := nat_lt3 (N := 4) hs.1 hs.2 (by decide)
      rw [nI_clamp (by omega), H.kon hI hk] at w1 w2
      have w3 : hd k = 0 ∧ okN (hn k) (gN G) := by
        by_cases r1 : hd k = 1
        · rw [if_pos r1] at w2; exact absurd (by decide) w2
        · rw [if_neg r1] at w1
          by_cases r2 : hd k = 0 ∧ okN (hn k) (gN G)
          · exact r2
          · rw [if_neg r2] at w1; exact absurd (by decide) w1
      refine ⟨hs, ⟨ha.1, Int32.not_le.mpr ha.2⟩, ?_⟩
      rw [nI_clamp (by omega)]; exact w3)
    rw [if_neg q, if_neg q2, if_neg q, if_neg q2]; exact ⟨rfl, TrA_0⟩
theorem act_R2 {G : MG} {n : Nat} {ch row ev cr tr lw tc : MA} {z : Int32} {A H : MH} {T : MT} {r s a x : Int32} (HG : RG G n ch row ev cr tr lw z) (hA : A = H) (hI : ShvI H) (hf : ((r, T) : Int32 × MT) = (aActR s a x A.1 A.2.1 ch n, gActR s a x A.1 A.2.1 ch n tc)) : r = aActC s a x G H.1 H.2.1 ∧ TrA (gActC s a x G H.1 H.2.1 (fun _ => 0)) T := by
  subst hA
  obtain ⟨q1, q2⟩ := RG.act (hz := A.2.2) (tc := tc) HG hI s a x
  have e1 : r = aActR s a x A.1 A.2.1 ch n := congrArg Prod.fst hf
  have e2 : T = gActR s a x A.1 A.2.1 ch n tc := congrArg Prod.snd hf
  rw [e1, e2]; exact ⟨q1, q2⟩
/-! TRACE, MANY -/
theorem trace_T {T T2 : MT} (h : TrA T T2) (hb : T2.2 ≤ 30) (i : Int32) : aTrace i T2 = aTrace i T := by
  have e := h.1
  unfold aTrace
  by_cases q : ¬ i < 0 ∧ ¬ nI T.2 - 1 < i
  · rw [if_pos q, if_pos (by rw [← e]; exact q)]
    obtain ⟨k, hk, rfl⟩ := nat_lt3 (N := T.2) q.1 ((okN_iff (by omega)).mp q).2 (by omega)
    rw [nI_clamp (by omega)]; exact h.2 k hk
  · rw [if_neg q, if_neg (by rw [← e]; exact q)]
theorem many_C {w : Int32} {G G2 : MG} {W : MW} {cl : MA} {rc sz rn : Nat} {T : MT} (hG : G = G2) (hW : W = (cl, rc)) (hT : T.2 = rn) : aMany w G2 rc sz rn = aMany w G W.2 sz T.2 := by
  subst hG; subst hW; rw [hT]
theorem many_R {w : Int32} {G : MG} {q q2 t b b2 : Nat} (h1 : q = q2) (h2 : b2 = b) : aMany w G q t b = aMany w G q2 t b2 := by
  subst h1; subst h2; rfl
