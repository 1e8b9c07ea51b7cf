/-! the class's methods, on the whole school -/
section CGS
variable {G : MG} {c d k a x w m h : Int32}
theorem cg_child_no {k a h f : Int32} (e : ¬ okC k a h f) : G = gChild k a h f G ∧ -1 = mChA k a h f (gN G) := by
  unfold gChild mChA
  rw [if_neg (fun q => e q.1), if_neg e]
  exact ⟨rfl, rfl⟩
theorem cg_child_full {k a h f : Int32} (e : okC k a h f) (h8 : gN G = 8) : G = gChild k a h f G ∧ -2 = mChA k a h f (gN G) := by
  unfold gChild mChA
  rw [if_neg (fun q => by have := q.2; omega), if_pos e, if_neg (by omega)]
  exact ⟨rfl, rfl⟩
theorem cg_child_ok {k a h f : Int32} (e : okC k a h f) (h8 : gN G < 8) : (gN G + 1, upd (gKd G) (gN G) k, upd (gKa G) (gN G) a, upd (gHo G) (gN G) h, upd (gFa G) (gN G) f, upd (gSi G) (gN G) 0, upd (gKn G) (gN G) 0, upd (gAw G) (gN G) 0, gEv G, gCr G, gTr G, gLw G, gTd G, gZ G) = gChild k a h f G ∧ nI (gN G + 1) - 1 = mChA k a h f (gN G) := by
  unfold gChild mChA
  rw [if_pos ⟨e, h8⟩, if_pos e, if_pos h8, nI_pred]
  exact ⟨rfl, rfl⟩
theorem cg_childOf_no (e : ¬ okN c (gN G)) : -1 = aChildOf c w G := by unfold aChildOf; rw [if_neg e]
theorem cg_childOf_ok {k : Nat} (hk : k < gN G) (hn : gN G ≤ 8) : (if w = 0 then gKd G k else if w = 1 then gKa G k else if w = 2 then gHo G k else if w = 3 then gFa G k else if w = 4 then gSi G k else if w = 5 then gKn G k else if w = 6 then gAw G k else -1) = aChildOf (nI k) w G := by
  unfold aChildOf
  rw [if_pos (okN_n hk (by omega)), nI_clamp (by omega)]
theorem cg_mind_no (e : ¬ okN c (gN G) ∨ ¬ (¬ k < 0 ∧ k < 6) ∨ ¬ (¬ a < 0 ∧ a ≤ 9)) : G = gMind c k a G ∧ -1 = aMind c k a G := by
  have e2 : ¬ (okN c (gN G) ∧ okK k a) := fun q => e.elim (fun w => w q.1) (fun w => w.elim (fun w => w q.2.1) (fun w => w q.2.2))
  unfold gMind aMind
  rw [if_neg e2, if_neg e2]
  exact ⟨rfl, rfl⟩
theorem cg_mind_ok {j : Nat} (hj : j < gN G) (hn : gN G ≤ 8) (e : okK k a) : (gN G, upd (gKd G) j k, upd (gKa G) j a, gHo G, gFa G, gSi G, gKn G, gAw G, gEv G, gCr G, gTr G, gLw G, gTd G, gZ G) = gMind (nI j) k a G ∧ gKd G j = aMind (nI j) k a G := by
  unfold gMind aMind
  rw [if_pos ⟨okN_n hj (by omega), e⟩, if_pos ⟨okN_n hj (by omega), e⟩, nI_clamp (by omega)]
  exact ⟨rfl, rfl⟩
theorem cg_sick_no (e : ¬ okN c (gN G) ∨ ¬ ok20 x) : G = gSick c x G ∧ -1 = aSick c x G := by
  have e2 : ¬ (okN c (gN G) ∧ ok20 x) := fun q => e.elim (fun w => w q.1) (fun w => w q.2)
  unfold gSick aSick
  rw [if_neg e2, if_neg e2]
  exact ⟨rfl, rfl⟩
theorem cg_sick_ok {j : Nat} (hj : j < gN G) (hn : gN G ≤ 8) (e : ok20 x) : (gN G, gKd G, gKa G, gHo G, gFa G, upd (gSi G) j x, gKn G, gAw G, gEv G, gCr G, gTr G, gLw G, gTd G, gZ G) = gSick (nI j) x G ∧ gSi G j = aSick (nI j) x G := by
  unfold gSick aSick
  rw [if_pos ⟨okN_n hj (by omega), e⟩, if_pos ⟨okN_n hj (by omega), e⟩, nI_clamp (by omega)]
  exact ⟨rfl, rfl⟩
theorem okD_n {j : Nat} (hj : j < 40) : okD (nI j) := ⟨nI_pos (by omega), nI_lt (b := 40) hj (by decide)⟩
theorem cg_event_no (e : ¬ okD d ∨ ¬ ok31 x) : G = gEvent d x G ∧ -1 = aEvent d x G := by
  have e2 : ¬ (okD d ∧ ok31 x) := fun q => e.elim (fun w => w q.1) (fun w => w q.2)
  unfold gEvent aEvent
  rw [if_neg e2, if_neg e2]
  exact ⟨rfl, rfl⟩
theorem cg_event_ok {j : Nat} (hj : j < 40) (e : ok31 x) : (gN G, gKd G, gKa G, gHo G, gFa G, gSi G, gKn G, gAw G, upd (gEv G) j x, gCr G, gTr G, gLw G, gTd G, gZ G) = gEvent (nI j) x G ∧ gEv G j = aEvent (nI j) x G := by
  unfold gEvent aEvent
  rw [if_pos ⟨okD_n hj, e⟩, if_pos ⟨okD_n hj, e⟩, nI_clamp (by omega)]
  exact ⟨rfl, rfl⟩
theorem cg_dayOf_no (e : ¬ okD d) : -1 = aDayOf d w G := by unfold aDayOf; rw [if_neg e]
theorem cg_dayOf_ok {j : Nat} {r : Int32} (hj : j < 40) (e : r = if w = 0 then gEv G j else if w = 1 then nI j - nI j / 5 * 5 else if w = 2 then gCr G j else if w = 3 then gTr G j else -1) : r = aDayOf (nI j) w G := by
  unfold aDayOf
  rw [if_pos (okD_n hj), nI_clamp (by omega)]
  exact e
theorem cg_set_no (e : ¬ okL c x) : G = gSet c x G ∧ -1 = aSet c x G := by
  unfold gSet aSet
  rw [if_neg e, if_neg e]
  exact ⟨rfl, rfl⟩
theorem okL_n {j : Nat} (hj : j ≤ 3) (h1 : ¬ x < tb_lowest j) (h2 : x ≤ tb_highest j) : okL (nI j) x := by
  unfold okL
  rw [nI_clamp (by omega)]
  exact ⟨⟨nI_pos (by omega), nI_lt (b := 4) (by omega) (by decide)⟩, h1, Int32.not_lt.mpr h2⟩
theorem okL_lo {j : Nat} (hj : j ≤ 3) (h1 : x < tb_lowest j) : ¬ okL (nI j) x := fun q => by
  have := q.2.1
  rw [nI_clamp (by omega)] at this
  exact this h1
theorem okL_hi {j : Nat} (hj : j ≤ 3) (h1 : ¬ x ≤ tb_highest j) : ¬ okL (nI j) x := fun q => by
  have := q.2.2
  rw [nI_clamp (by omega)] at this
  exact h1 (Int32.not_lt.mp this)
theorem cg_set_ok {j : Nat} (hj : j ≤ 3) (e : okL (nI j) x) : (gN G, gKd G, gKa G, gHo G, gFa G, gSi G, gKn G, gAw G, gEv G, gCr G, gTr G, upd (gLw G) j x, gTd G, gZ G) = gSet (nI j) x G ∧ gLw G j = aSet (nI j) x G := by
  unfold gSet aSet
  rw [if_pos e, if_pos e, nI_clamp (by omega)]
  exact ⟨rfl, rfl⟩
theorem cg_would_no (e : ¬ okN c (gN G)) : -1 = aWould c G := by unfold aWould; rw [if_neg e]
theorem cg_would_st {j : Nat} (hj : j < gN G) (hn : gN G ≤ 8) (h : 40 ≤ gTd G) : -4 = aWould (nI j) G := by
  unfold aWould
  rw [if_pos (okN_n hj (by omega)), if_pos h]
theorem cg_would_ok {j : Nat} (hj : j < gN G) (hn : gN G ≤ 8) (h : ¬ 40 ≤ gTd G) : (if mAway (gKd G j) (gKa G j) (gFa G j) (nI (gTd G)) (gEv G (gTd G)) (decide (0 < gSi G j)) (decide (0 < gKn G j)) (gAw G j) (gLw G 1) = true then (1 : Int32) else 0) = aWould (nI j) G := by
  unfold aWould mAwayOf
  rw [if_pos (okN_n hj (by omega)), if_neg h, nI_clamp (by omega), decide_eq_true (show gTd G < 40 by omega), Bool.true_and]
theorem would_0 {td : Nat} {b : Bool} (h : ¬ 40 ≤ td) (e : (if 40 ≤ td then (0 : Int32) else if b = true then 1 else 0) = 0) : (0 : Int32) = if b = true then 1 else 0 := by
  rw [if_neg h] at e; exact e.symm
theorem would_1 {td : Nat} {b : Bool} (h : ¬ 40 ≤ td) (e : ¬ (if 40 ≤ td then (0 : Int32) else if b = true then 1 else 0) = 0) : (1 : Int32) = if b = true then 1 else 0 := by
  rw [if_neg h] at e
  cases b
  · exact absurd rfl e
  · rfl
theorem cg_go0 : G = gGo 0 G := by
  unfold gGo
  rw [← mFd_0, ← mFd_0]
  rfl
theorem cg_goS {i t1 : Nat} {si1 kn1 aw1 cr1 tr1 : MA} (h : ((gN G, gKd G, gKa G, gHo G, gFa G, si1, kn1, aw1, gEv G, cr1, tr1, gLw G, t1, gZ G) : MG) = gGo i G) : ((gN G, gKd G, gKa G, gHo G, gFa G, mSi1 (gKd G) (gHo G) (gLw G) si1 (gN G), mMap mDec kn1 (gN G), mMap (mAw (mThere (gKd G) (gKa G) (gFa G) si1 kn1 aw1 (gEv G) (gLw G) t1 (gN G))) aw1 (gN G), gEv G, upd cr1 t1 (mThere (gKd G) (gKa G) (gFa G) si1 kn1 aw1 (gEv G) (gLw G) t1 (gN G)), upd tr1 t1 (mThere (gKd G) (gKa G) (gFa G) si1 kn1 aw1 (gEv G) (gLw G) t1 (gN G)), gLw G, t1 + 1, gZ G) : MG) = gGo (i + 1) G := by
  have e1 : si1 = (gGoT G i).1 := congrArg gSi h
  have e2 : kn1 = (gGoT G i).2.1 := congrArg gKn h
  have e3 : aw1 = (gGoT G i).2.2 := congrArg gAw h
  have e4 : cr1 = mFd (gDI G) (gCr G) (gTd G) i := congrArg gCr h
  have e5 : tr1 = mFd (gDI G) (gTr G) (gTd G) i := congrArg gTr h
  have e6 : t1 = gTd G + i := congrArg gTd h
  subst e1; subst e2; subst e3; subst e6
  have q4 := mFd_u (v := gDI G i) e4 (rfl : gTd G + i = gTd G + i) rfl
  have q5 := mFd_u (v := gDI G i) e5 (rfl : gTd G + i = gTd G + i) rfl
  unfold gGo
  rw [← q4, ← q5]
  rfl
theorem cg_days_no (e : m < 0 ∨ 40 < m) : G = gDays m G ∧ -1 = mDaysR (gTd G) m := by
  unfold gDays
  rw [if_pos e]
  exact ⟨rfl, (days_no (td := gTd G) e).2⟩
theorem cg_days_ok {G2 : MG} {i j t1 : Nat} (h : G2 = gGo i G) (hj : j ≤ 40) (e : t1 = gTd G + i) (e2 : t1 = mDaysT (gTd G) (nI j)) : G2 = gDays (nI j) G := by
  unfold gDays
  rw [if_neg (days_ok hj), ← e2, e, show gTd G + i - gTd G = i from by omega]
  exact h
theorem cg_knock_no (e : ¬ okH h) : G = gKnock h G ∧ -1 = aKnock h G := by
  unfold gKnock aKnock
  rw [if_neg e, if_neg e]
  exact ⟨rfl, rfl⟩
theorem cg_knock_ok (e : okH h) : (gN G, gKd G, gKa G, gHo G, gFa G, gSi G, mKn1 (gHo G) (gLw G) h (gKn G) (gN G), gAw G, gEv G, gCr G, gTr G, gLw G, gTd G, gZ G) = gKnock h G ∧ nI (mCt (fun c => decide (gHo G c = h)) (gN G)) = aKnock h G := by
  unfold gKnock aKnock
  rw [if_pos e, if_pos e]
  exact ⟨rfl, rfl⟩
theorem cg_write_no (e : ¬ okW d c G) : G = gWrite d c x G ∧ -1 = aWrite d c x G := by
  unfold gWrite aWrite
  rw [if_neg e, if_neg e]
  exact ⟨rfl, rfl⟩
theorem okW_n {i j : Nat} (hi : i < gTd G) (ht : gTd G ≤ 40) (hj : j < gN G) (hn : gN G ≤ 8) : okW (nI i) (nI j) G := ⟨⟨nI_pos (by omega), nI_lt hi (by omega)⟩, okN_n hj (by omega)⟩
theorem okW_td {i : Nat} (hi : gTd G ≤ i) (h40 : i < 40) : ¬ okW (nI i) c G := fun q => by
  have := (nI_ltI (a := i) (b := gTd G) (by omega) (by omega)).mp q.1.2
  omega
theorem okW_d (ht : gTd G ≤ 40) (hd : ¬ okD d) : ¬ okW d c G := fun q => hd ⟨q.1.1, by
  have h1 := q.1.2
  rw [Int32.lt_iff_toInt_lt, nI_toInt (by omega)] at h1
  rw [Int32.lt_iff_toInt_lt, show (40 : Int32).toInt = 40 from by decide]; omega⟩
theorem cg_write_ok {i j : Nat} {v r : Int32} (hi : i < gTd G) (ht : gTd G ≤ 40) (hj : j < gN G) (hn : gN G ≤ 8) (hv : v = mWr (gCr G i) (nI j) x) (hr : (v = gCr G i ∧ r = 0) ∨ (¬ v = gCr G i ∧ r = 1)) : (gN G, gKd G, gKa G, gHo G, gFa G, gSi G, gKn G, gAw G, gEv G, upd (gCr G) i v, gTr G, gLw G, gTd G, gZ G) = gWrite (nI i) (nI j) x G ∧ r = aWrite (nI i) (nI j) x G := by
  have e := okW_n (G := G) hi ht hj hn
  unfold gWrite aWrite
  rw [if_pos e, if_pos e, nI_clamp (by omega), hv]
  refine ⟨rfl, ?_⟩
  rw [hv] at hr
  rcases hr with ⟨q1, q2⟩ | ⟨q1, q2⟩
  · rw [if_pos q1, q2]
  · rw [if_neg q1, q2]
theorem cg_draw_no (h : gN G = 0 ∨ 40 ≤ gTd G) : G = gDraw G := by
  unfold gDraw
  rw [if_neg (fun q => h.elim (fun w => q.2 (by
    show mThere _ _ _ _ _ _ _ _ _ (gN G) = 0
    rw [w]; rfl)) (fun w => by have := q.1; omega))]
theorem pop_pos {x : Int32} (h : x.toBitVec.toNat < 256) : (0 < mPop x) = (¬ x = 0) := by
  apply propext
  have e := pop_n h
  rw [← i32_of h] at e
  have h0 : ∀ m : Nat, m < 256 → (pop8 m = 0 ↔ m = 0) := by decide +kernel
  have h1 := h0 _ h
  have h2 := pop_8 _ h
  rw [e, show (0 : Int32) = nI 0 from rfl, nI_ltI (by decide) (by omega)]
  refine ⟨fun q w => ?_, fun q => ?_⟩
  · have : x.toBitVec.toNat = 0 := by rw [w]; rfl
    have := h1.mpr this
    omega
  · have : ¬ x.toBitVec.toNat = 0 := fun w => q (by rw [i32_of h, w])
    have : ¬ pop8 x.toBitVec.toNat = 0 := fun w => this (h1.mp w)
    omega
theorem cg_draw_ok (hn : gN G ≤ 8) (h : ¬ 40 ≤ gTd G) {r : Int32} (hr : r = gTh G) : (gN G, gKd G, gKa G, gHo G, gFa G, gSi G, gKn G, gAw G, gEv G, gCr G, gTr G, gLw G, gTd G, (if 0 < mPop r then mZ (gZ G) else gZ G)) = gDraw G := by
  subst hr
  unfold gDraw
  have e : (0 < mPop (gTh G)) = (¬ gTh G = 0) := pop_pos (mBits_lt _ _ hn)
  by_cases q : gTh G = 0
  · rw [if_neg (show ¬ (gTd G < 40 ∧ ¬ gTh G = 0) from fun w => w.2 q), if_neg (show ¬ 0 < mPop (gTh G) from by rw [e]; exact fun w => w q)]
  · rw [if_pos (show gTd G < 40 ∧ ¬ gTh G = 0 from ⟨by omega, q⟩), if_pos (show 0 < mPop (gTh G) from by rw [e]; exact q)]
    rfl
end CGS
section CGT
variable {G : MG} {c m a b : Int32}
theorem cg_there_no (e : ¬ (¬ m < 0 ∧ m ≤ 20)) : -1 = aThere m G := th_no (fun q => e ⟨q.1, Int32.not_lt.mp q.2⟩)
theorem cg_there_ok {m : Nat} (hm : m ≤ 20) : gComes G 0 m = aThere (nI m) G := by
  unfold gComes aThere
  rw [mKnS_0 6 (by omega)]
  exact th_ok hm
theorem cg_meet_no (e : ¬ okN a (gN G) ∨ ¬ okN b (gN G) ∨ a = b ∨ ¬ (¬ m < 0 ∧ m ≤ 20)) : -1 = aMeet a b m G := by
  have e2 : ¬ ((okN a (gN G) ∧ okN b (gN G)) ∧ ¬ a = b ∧ ok20 m) := fun q => by
    rcases e with w | w | w | w
    · exact w q.1.1
    · exact w q.1.2
    · exact q.2.1 w
    · exact w ⟨q.2.2.1, Int32.not_lt.mp q.2.2.2⟩
  unfold aMeet
  rw [if_neg e2]
theorem cg_meet_ok {a b m : Nat} (ha : a < gN G) (hb : b < gN G) (hn : gN G ≤ 8) (hab : ¬ a = b) (hm : m ≤ 20) : nI (mCt (fun i => decide (gDI G i &&& (((1 : Int32) <<< (nI a &&& 31)) ||| ((1 : Int32) <<< (nI b &&& 31))) = ((1 : Int32) <<< (nI a &&& 31)) ||| ((1 : Int32) <<< (nI b &&& 31)))) (min m (40 - gTd G))) = aMeet (nI a) (nI b) (nI m) G := by
  unfold aMeet
  rw [if_pos (show (okN (nI a) (gN G) ∧ okN (nI b) (gN G)) ∧ ¬ nI a = nI b ∧ ok20 (nI m) from ⟨⟨okN_n ha (by omega), okN_n hb (by omega)⟩, fun q => hab ((nI_eq (by omega) (by omega)).mp q), ok20_n hm⟩), nI_clamp (by omega), nI_clamp (by omega), nI_clamp (by omega)]
  congr 1
  exact mCt_cg _ (fun i _ => two_in (by omega) (by omega))
theorem n1_of {m : Nat} (hm : m ≤ 20) (h : ¬ nI m < 1) : 1 ≤ m := by
  by_cases q : 1 ≤ m
  · exact q
  · exact absurd (nI_lt (a := m) (b := 1) (by omega) (by decide)) h
theorem cg_least_no (e : ¬ 1 ≤ m ∨ ¬ (¬ m < 0 ∧ m ≤ 20)) : -1 = aLeast m G := by
  unfold aLeast
  rw [if_neg (fun q => e.elim (fun w => w (Int32.not_lt.mp q.1)) (fun w => w ⟨fun z => q.1 (by
    rw [Int32.lt_iff_toInt_lt] at z ⊢
    rw [show (0 : Int32).toInt = 0 from by decide] at z
    rw [show (1 : Int32).toInt = 1 from by decide]; omega), Int32.not_lt.mp q.2⟩))]
theorem cg_least_ok {m : Nat} (h1 : 1 ≤ m) (hm : m ≤ 20) : (mLeast (fun i => mPop (gDI G i)) (gTd G) (min m (40 - gTd G))).1 = aLeast (nI m) G := by
  unfold aLeast
  rw [if_pos (ok1_n h1 hm), nI_clamp (by omega)]
theorem cg_good_no (e : ¬ okN c (gN G)) : -1 = aGood c G := by unfold aGood; rw [if_neg e]
theorem cg_good_ok {c : Nat} (hc : c < gN G) (hn : gN G ≤ 8) : mGood (fun j => decide (¬ (gGoT G j).2.2 c < gLw G 1)) (gTd G) (41 - gTd G) = aGood (nI c) G := by
  unfold aGood
  rw [if_pos (okN_n hc (by omega)), nI_clamp (by omega)]
end CGT
section CGR
variable {G : MG} {k m w : Int32}
theorem cg_round_no (h : (k < 1 ∨ 3 < k) ∨ ¬ (¬ m < 0 ∧ m ≤ 20) ∨ w < 0 ∨ 1 < w) : -1 = aRound k m w G := by
  unfold aRound
  rw [if_neg (fun q => by
    rcases h with (z | z) | z | z | z
    · exact q.1.1 z
    · exact q.1.2 z
    · exact z ⟨q.2.1.1, Int32.not_lt.mp q.2.1.2⟩
    · exact q.2.2.1 z
    · exact q.2.2.2 z)]
theorem cg_round_ok {j : Nat} {r : Int32} (hk : ¬ k < 1 ∧ ¬ 3 < k) (hj : j ≤ 20) (hw : ¬ w < 0 ∧ ¬ 1 < w) (hr : (w = 0 ∧ r = (mBest (fun i => gComes G (nI i) j) k 63).1) ∨ (¬ w = 0 ∧ r = gComes G (mBest (fun i => gComes G (nI i) j) k 63).1 j)) : r = aRound k (nI j) w G := by
  unfold aRound
  rw [if_pos ⟨hk, ok20_n hj, hw⟩, nI_clamp (by omega)]
  rcases hr with ⟨h1, h2⟩ | ⟨h1, h2⟩
  · rw [if_pos h1, h2]
  · rw [if_neg h1, h2]
end CGR
/-! ROWS -/
theorem cg_prove_no {m : Int32} {G : MG} {W : MW} (e : ¬ 1 ≤ m ∨ ¬ (¬ m < 0 ∧ m ≤ 20)) : W = gProve m G W ∧ -1 = aProve m G := by
  have h : ¬ okP m := fun q => by
    rcases e with w | w
    · exact w (Int32.not_lt.mp q.1)
    · refine w ⟨fun x => q.1 ?_, Int32.not_lt.mp q.2⟩
      rw [Int32.lt_iff_toInt_lt] at x ⊢
      rw [show (0 : Int32).toInt = 0 from by decide] at x
      rw [show (1 : Int32).toInt = 1 from by decide]; omega
  unfold gProve aProve
  rw [if_neg h, if_neg h]; exact ⟨rfl, rfl⟩
theorem cg_prove_ok {m : Nat} {G : MG} {cl : MA} {c0 : Nat} (h1 : 1 ≤ m) (hm : m ≤ 20) : ((mRowsC cl (gDI G) (gSk G) (gTd G) (min m (40 - gTd G)), min m (40 - gTd G)) : MW) = gProve (nI m) G (cl, c0) ∧ nI (min m (40 - gTd G)) = aProve (nI m) G := by
  have ek : gPk (nI m) G = min m (40 - gTd G) := by
    show min (nI m).toNatClampNeg (40 - gTd G) = _
    rw [nI_clamp (by omega)]
  unfold gProve aProve
  rw [if_pos (show okP (nI m) from ok1_n h1 hm), if_pos (show okP (nI m) from ok1_n h1 hm), ek]
  exact ⟨rfl, rfl⟩
theorem cg_row_no {i w : Int32} {W : MW} (h : mPlace W.2 i w < 0) : -9 = aRow i w W := by unfold aRow; rw [if_pos h]
theorem cg_row_ok {i w : Int32} {W : MW} {k : Nat} (hk : k < 60) (h : mPlace W.2 i w = nI k) : W.1 k = aRow i w W := by
  unfold aRow; rw [h, if_neg (nI_pos (by omega)), nI_clamp (by omega)]
theorem cg_alter_no {i w v : Int32} {W : MW} (h : mPlace W.2 i w < 0) : W = gAlter i w v W ∧ -9 = aRow i w W := by
  refine ⟨?_, cg_row_no h⟩
  unfold gAlter; rw [if_pos h]
theorem cg_alter_ok {i w v : Int32} {W : MW} {k : Nat} (hk : k < 60) (h : mPlace W.2 i w = nI k) : (upd W.1 k v, W.2) = gAlter i w v W ∧ W.1 k = aRow i w W := by
  refine ⟨?_, cg_row_ok hk h⟩
  unfold gAlter; rw [h, if_neg (nI_pos (by omega)), nI_clamp (by omega)]
theorem cg_trace_no {f : MA} {b : Nat} {i : Int32} (hb : b ≤ 30) (h : i < 0 ∨ nI b ≤ i) : -3 = aTrace i (f, b) := by
  refine trace_no (T := (f, b)) ⟨rfl, fun _ _ => rfl⟩ (fun q => ?_)
  rcases h with w | w
  · exact q.1 w
  · apply q.2
    rw [Int32.lt_iff_toInt_lt, show (1 : Int32) = nI 1 from rfl]
    simp only [Int32.le_iff_toInt_le, nI_toInt (show b < 2 ^ 31 by omega)] at w
    by_cases z : b = 0
    · subst z
      rw [show (nI 0 - nI 1).toInt = -1 from by decide]; omega
    · rw [pk_sub_toInt (by omega) (by omega)]; omega
