def mSo (r s t : Int32) (j : Nat) (o : Int32) : Int32 := if r = 1 ∧ s = nI j then t else o
def mLn (r s t n : Int32) (j : Nat) (o : Int32) : Int32 := if r = 1 ∧ s = nI j then (if t.toInt < 0 then 0 else n) else o
theorem mSo_no {r s t o : Int32} {j : Nat} (h : ¬ r = 1) : o = mSo r s t j o := by unfold mSo; rw [if_neg (fun h9 : r = 1 ∧ s = nI j => h h9.1)]
theorem mSo_ne {r s t o : Int32} {j : Nat} (h : ¬ s = nI j) : o = mSo r s t j o := by unfold mSo; rw [if_neg (fun h9 : r = 1 ∧ s = nI j => h h9.2)]
theorem mSo_is {t o : Int32} {j : Nat} : t = mSo 1 (nI j) t j o := by unfold mSo; rw [if_pos ⟨rfl, rfl⟩]
theorem mLn_no {r s t n o : Int32} {j : Nat} (h : ¬ r = 1) : o = mLn r s t n j o := by unfold mLn; rw [if_neg (fun h9 : r = 1 ∧ s = nI j => h h9.1)]
theorem mLn_ne {r s t n o : Int32} {j : Nat} (h : ¬ s = nI j) : o = mLn r s t n j o := by unfold mLn; rw [if_neg (fun h9 : r = 1 ∧ s = nI j => h h9.2)]
theorem mLn_lo {t n o : Int32} {j : Nat} (h : t.toInt < 0) : 0 = mLn 1 (nI j) t n j o := by unfold mLn; rw [if_pos ⟨rfl, rfl⟩, if_pos h]
theorem mLn_hi {t n o : Int32} {j : Nat} (h : ¬ t.toInt < 0) : n = mLn 1 (nI j) t n j o := by unfold mLn; rw [if_pos ⟨rfl, rfl⟩, if_neg h]
def v4 (a b c d : Int32) (j : Nat) : Int32 := if j = 0 then a else if j = 1 then b else if j = 2 then c else d
def mPut (s i : Int32) (so ln : Nat → Int32) : Int32 := if s < 0 ∨ 3 < s then -1 else if so s.toNatClampNeg < 0 then -11 else if i < 0 ∨ ln s.toNatClampNeg - 1 < i then -12 else 1
def mPutC (s i : Int32) (so ln : Nat → Int32) : Int32 := if s < 0 ∨ ¬ s < 4 then -1 else if so s.toNatClampNeg = -1 then -11 else if i < 0 ∨ ¬ i < ln s.toNatClampNeg then -12 else 1
def mEv (s i d n : Int32) (so ln : Nat → Int32) : Int32 := if (s < 0 ∨ 3 < s) ∨ (d < 0 ∨ 39 < d) ∨ (n < 0 ∨ 40 < n) ∨ 40 < d + n then -1 else if so s.toNatClampNeg < 0 then -11 else if ¬ so s.toNatClampNeg = 0 then -13 else if i < 0 ∨ ln s.toNatClampNeg - n < i then -12 else n
def mEvC (s i d n : Int32) (so ln : Nat → Int32) : Int32 := if (s < 0 ∨ ¬ s < 4) ∨ (d < 0 ∨ ¬ d < 40) ∨ n < 0 ∨ 40 - d < n then -1 else if so s.toNatClampNeg = -1 then -11 else if ¬ so s.toNatClampNeg = 0 then -13 else if i < 0 ∨ ln s.toNatClampNeg < i ∨ ln s.toNatClampNeg - i < n then -12 else n
def mSheet (s t n : Int32) : Int32 := if 0 ≤ s.toInt ∧ s.toInt < 4 ∧ -1 ≤ t.toInt ∧ t.toInt < 4 then (if t.toInt = -1 then 1 else if 40 < n.toInt then -1 else if n.toInt < 0 then -14 else 1) else -1
def mFeed (t : Nat) (n : Int32) : Int32 := if n < 1 ∨ 8 < n then -1 else if 240 < t + n.toNatClampNeg then -2 else nI (t + n.toNatClampNeg)
def mFeedT (t : Nat) (n : Int32) : Nat := if n < 1 ∨ 8 < n ∨ 240 < t + n.toNatClampNeg then t else t + n.toNatClampNeg
def le40 (x : Int32) : Prop := ∃ d : Nat, d ≤ 40 ∧ x = nI d
def lt40 (x : Int32) : Prop := ∃ d : Nat, d < 40 ∧ x = nI d
def RowOk (f : Nat → Int32) : Prop := le40 (f 0) ∧ le40 (f 25)
def SizOk (f : Nat → Int32) : Prop := ∀ j, j < 4 → le40 (f j)
theorem upd_is (f : Nat → Int32) (k : Nat) (v : Int32) : upd f k v k = v := by simp [upd]
theorem upd_ne (f : Nat → Int32) {k j : Nat} (v : Int32) (h : ¬ j = k) : upd f k v j = f j := by simp [upd, h]
theorem RowOk.at {f : Nat → Int32} (h : RowOk f) {p : Nat} (hp : p = 0 ∨ p = 25) : le40 (f p) := by
  rcases hp with rfl | rfl
  · exact h.1
  · exact h.2
theorem RowOk.set {f : Nat → Int32} (h : RowOk f) {k : Nat} {v : Int32} (h0 : ¬ k = 0) (h1 : ¬ k = 25) : RowOk (upd f k v) := by
  refine ⟨?_, ?_⟩
  · rw [upd_ne f v (fun e => h0 e.symm)]; exact h.1
  · rw [upd_ne f v (fun e => h1 e.symm)]; exact h.2
theorem RowOk.put {f : Nat → Int32} (h : RowOk f) {k : Nat} {v : Int32} (hv : le40 v) : RowOk (upd f k v) := by
  refine ⟨?_, ?_⟩
  · by_cases e : 0 = k
    · rw [← e, upd_is]; exact hv
    · rw [upd_ne f v e]; exact h.1
  · by_cases e : 25 = k
    · rw [← e, upd_is]; exact hv
    · rw [upd_ne f v e]; exact h.2
theorem SizOk.put {f : Nat → Int32} (h : SizOk f) {k : Nat} {v : Int32} (hv : le40 v) : SizOk (upd f k v) := fun j hj => by
  by_cases e : j = k
  · rw [e, upd_is]; exact hv
  · rw [upd_ne f v e]; exact h j hj
theorem nat_le {x : Int32} {N : Nat} (h0 : ¬ x < 0) (h1 : ¬ nI N < x) (hN : N < 2 ^ 31) : ∃ k, k ≤ N ∧ x = nI k := by
  rw [Int32.lt_iff_toInt_lt] at h0 h1
  rw [nI_toInt hN] at h1
  have h2 : (0 : Int32).toInt = 0 := by decide
  rw [h2] at h0
  refine ⟨x.toInt.toNat, by omega, ?_⟩
  apply Int32.toInt_inj.mp
  rw [nI_toInt (by omega)]; omega
theorem nat_le1 {x : Int32} {N : Nat} (h0 : ¬ x < 1) (h1 : ¬ nI N < x) (hN : N < 2 ^ 31) : ∃ k, (1 ≤ k ∧ k ≤ N) ∧ x = nI k := by
  rw [Int32.lt_iff_toInt_lt] at h0 h1
  rw [nI_toInt hN] at h1
  have h2 : (1 : Int32).toInt = 1 := by decide
  rw [h2] at h0
  refine ⟨x.toInt.toNat, by omega, ?_⟩
  apply Int32.toInt_inj.mp
  rw [nI_toInt (by omega)]; omega
theorem RowOk.lend {f : Nat → Int32} (h : RowOk f) {k : Nat} : RowOk (upd f (25 + k) (f k)) := by
  by_cases e : k = 0
  · rw [e]; exact h.put h.1
  · exact h.set (by omega) (by omega)
theorem nat_lt1 {x : Int32} {N : Nat} (h0 : ¬ x < 0) (h1 : ¬ nI N - 1 < x) (hN : N < 2 ^ 31) : ∃ k, k < N ∧ x = nI k := by
  cases N with
  | zero =>
    exfalso
    rw [Int32.lt_iff_toInt_lt] at h0 h1
    have h2 : (0 : Int32).toInt = 0 := by decide
    have h3 : (nI 0 - 1).toInt = -1 := by decide
    rw [h2] at h0; rw [h3] at h1; omega
  | succ M =>
    have h4 : nI (M + 1) - 1 = nI M := by rw [nI_succ, Int32.add_sub_cancel]
    rw [h4] at h1
    obtain ⟨k, hk, e⟩ := nat_le h0 h1 (by omega)
    exact ⟨k, by omega, e⟩
/-! answers and steps in the scalars: how many children, TODAY, what is kept -/
abbrev okC (k a h f : Int32) : Prop := (¬ k < 0 ∧ k < 6) ∧ (¬ a < 0 ∧ a ≤ 9) ∧ (¬ h < 0 ∧ h < 6) ∧ ¬ f < 0 ∧ f ≤ 9
abbrev okR (k a h f : Int32) : Prop := ((¬ k < 0 ∧ ¬ 5 < k) ∧ (¬ a < 0 ∧ ¬ 9 < a)) ∧ (¬ h < 0 ∧ ¬ 5 < h) ∧ (¬ f < 0 ∧ ¬ 9 < f)
theorem ok_iff {k a h f : Int32} : okR k a h f ↔ okC k a h f := by
  unfold okR okC
  simp only [Int32.lt_iff_toInt_lt, Int32.le_iff_toInt_le, show (0 : Int32).toInt = 0 from by decide, show (5 : Int32).toInt = 5 from by decide, show (6 : Int32).toInt = 6 from by decide, show (9 : Int32).toInt = 9 from by decide]
  omega
def mChA (k a h f : Int32) (n : Nat) : Int32 := if okC k a h f then (if n < 8 then nI n else -2) else -1
def mChN (k a h f : Int32) (n : Nat) : Nat := if okC k a h f ∧ n < 8 then n + 1 else n
def mChAR (k a h f : Int32) (n : Nat) : Int32 := if okR k a h f then (if n < 8 then nI n else -2) else -1
def mChNR (k a h f : Int32) (n : Nat) : Nat := if okR k a h f ∧ n < 8 then n + 1 else n
theorem mChA_eq (k a h f : Int32) (n : Nat) : mChAR k a h f n = mChA k a h f n := by
  unfold mChAR mChA
  by_cases e : okC k a h f
  · rw [if_pos e, if_pos (ok_iff.mpr e)]
  · rw [if_neg e, if_neg (fun q => e (ok_iff.mp q))]
theorem mChN_eq (k a h f : Int32) (n : Nat) : mChNR k a h f n = mChN k a h f n := by
  unfold mChNR mChN
  by_cases e : okC k a h f ∧ n < 8
  · rw [if_pos e, if_pos ⟨ok_iff.mpr e.1, e.2⟩]
  · rw [if_neg e, if_neg (fun q => e ⟨ok_iff.mp q.1, q.2⟩)]
theorem mChN_le {k a h f : Int32} {n : Nat} (hn : n ≤ 8) : mChN k a h f n ≤ 8 := by
  unfold mChN; split <;> omega
def mDaysT (td : Nat) (n : Int32) : Nat := if n < 0 ∨ 40 < n then td else min 40 (td + n.toNatClampNeg)
def mDaysR (td : Nat) (n : Int32) : Int32 := if n < 0 ∨ 40 < n then -1 else nI (mDaysT td n)
theorem mDaysT_le {td : Nat} {n : Int32} (h : td ≤ 40) : mDaysT td n ≤ 40 := by
  unfold mDaysT; split
  · exact h
  · exact Nat.min_le_left _ _
theorem days_ok {n : Nat} (hn : n ≤ 40) : ¬ (nI n < 0 ∨ 40 < nI n) := fun q => q.elim (fun q => nI_pos (by omega) q) (fun q => by
  have := (nI_ltI (a := 40) (b := n) (by decide) (by omega)).mp q
  omega)
theorem days_end {td tx k n : Nat} (hk : k ≤ n) (hn : n ≤ 40) (hx : n ≤ k ∨ 40 ≤ tx) (ht : tx = td + k) (hle : tx ≤ 40) : tx = mDaysT td (nI n) ∧ nI tx = mDaysR td (nI n) := by
  have e : tx = mDaysT td (nI n) := by
    unfold mDaysT
    rw [if_neg (days_ok hn), nI_clamp (by omega)]; omega
  refine ⟨e, ?_⟩
  unfold mDaysR
  rw [if_neg (days_ok hn), ← e]
theorem days_no {td : Nat} {n : Int32} (h : n < 0 ∨ 40 < n) : td = mDaysT td n ∧ -1 = mDaysR td n := by
  unfold mDaysR mDaysT; rw [if_pos h, if_pos h]; exact ⟨rfl, rfl⟩
theorem days_nr {td : Nat} {n : Int32} (h : ¬ (¬ n < 0 ∧ ¬ 40 < n)) : td = mDaysT td n ∧ -1 = mDaysR td n := days_no (by
  by_cases e : n < 0
  · exact Or.inl e
  · exact Or.inr (by
      by_cases e2 : 40 < n
      · exact e2
      · exact absurd ⟨e, e2⟩ h))
/-- the reference's days -/
theorem day_s {x y : Int32} {d j k : Nat} (e : x = nI (d + k) ∧ d + k ≤ 40) (hj : x = nI j) (hj40 : j ≤ 40) (hb : ¬ 40 ≤ j) (F : ∀ i : Nat, i < 40 → x = nI i → y = nI (i + 1)) : y = nI (d + (k + 1)) ∧ d + (k + 1) ≤ 40 := by
  have e2 : j = d + k := (nI_eq (by omega) (by omega)).mp (hj.symm.trans e.1)
  refine ⟨(F j (by omega) hj).trans (by rw [e2]; rfl), by omega⟩
theorem days_fin {x : Int32} {d k n j : Nat} (e : x = nI (d + k) ∧ d + k ≤ 40) (hk : k ≤ n) (hn : n ≤ 40) (hJ : n ≤ k ∨ x = nI 40) (hj : x = nI j) (hj40 : j ≤ 40) : x = nI (mDaysT d (nI n)) ∧ nI j = mDaysR d (nI n) := by
  have e2 : j = d + k := (nI_eq (by omega) (by omega)).mp (hj.symm.trans e.1)
  have e3 : n ≤ k ∨ 40 ≤ j := hJ.elim Or.inl (fun q => Or.inr (by
    have := (nI_eq (a := j) (b := 40) (by omega) (by omega)).mp (hj.symm.trans q)
    omega))
  obtain ⟨q1, q2⟩ := days_end (td := d) (tx := j) hk hn e3 e2 hj40
  exact ⟨hj.trans (congrArg nI q1), q2⟩
def mShC (s w m : Int32) (n : Nat) : Int32 := if (s < 0 ∨ ¬ s < 4) ∨ w < 0 ∨ 2 < w then -1 else if (w = 0 ∧ ¬ (¬ m < 0 ∧ m < nI n)) ∨ (w = 1 ∧ ¬ (¬ m < 0 ∧ m < 4)) then -1 else 1
def mShR (s w m : Int32) (n : Nat) : Int32 := if (s < 0 ∨ 3 < s) ∨ ¬ ((w = 0 ∧ ¬ m < 0 ∧ ¬ nI n - 1 < m) ∨ (w = 1 ∧ ¬ m < 0 ∧ ¬ 3 < m) ∨ w = 2) then -1 else 1
theorem mSh_eq {s w m : Int32} {n : Nat} (hn : n ≤ 8) : mShR s w m n = mShC s w m n := by
  have e1 : (nI n - 1).toInt = (n : Int) - 1 := by
    rw [show (1 : Int32) = nI 1 from rfl, pk_sub_toInt (by omega) (by omega)]; rfl
  unfold mShR mShC
  simp only [Int32.lt_iff_toInt_lt, ← Int32.toInt_inj, e1, nI_toInt (show n < 2 ^ 31 by omega), show (0 : Int32).toInt = 0 from by decide, show (1 : Int32).toInt = 1 from by decide, show (2 : Int32).toInt = 2 from by decide, show (3 : Int32).toInt = 3 from by decide, show (4 : Int32).toInt = 4 from by decide]
  by_cases a : (s.toInt < 0 ∨ ¬ s.toInt < 4) ∨ w.toInt < 0 ∨ 2 < w.toInt
  · rw [if_pos a, if_pos (by omega)]
  · rw [if_neg a]
    by_cases b : (w.toInt = 0 ∧ ¬ (¬ m.toInt < 0 ∧ m.toInt < n)) ∨ (w.toInt = 1 ∧ ¬ (¬ m.toInt < 0 ∧ m.toInt < 4))
    · rw [if_pos b, if_pos (by omega)]
    · rw [if_neg b, if_neg (by omega)]
def mAgA (ik : Int32) (kt : Nat) : Int32 := if ik = 0 then -3 else nI kt
def mAgN (ik : Int32) (n kn : Nat) : Nat := if ik = 0 then n else kn

/-! a day on the reference's row, in the class's model functions -/
def xC (ch : Nat → Int32) (j : Nat) : Nat → Int32 := fun c => ch (4 * c + j)
def xR (row : Nat → Int32) (p : Nat) : Nat → Int32 := fun c => row (p + c)
def mDecR (x : Int32) : Int32 := if 0 < x then x - 1 else x
theorem bits_1 {v : Int32} {f : Nat → Bool} {k : Nat} (h : v = mBits f k) (hf : f k = true) : v ||| ((1 : Int32) <<< (nI k &&& 31)) = mBits f (k + 1) := by
  show _ = if f k = true then _ else _
  rw [if_pos hf, h]
theorem bits_0 {v : Int32} {f : Nat → Bool} {k : Nat} (h : v = mBits f k) (hf : f k = false) : v ||| 0 = mBits f (k + 1) := by
  show _ = if f k = true then _ else _
  rw [if_neg (by rw [hf]; decide), h, Int32.or_zero]
/-- who is there, by the reference's rows -/
def fTh (ch row ev lw : Nat → Int32) (p0 d : Nat) : Nat → Bool := fun k => !mAwayOf (xC ch 0) (xC ch 1) (xC ch 3) (xR row (p0 + 1)) (xR row (p0 + 9)) (xR row (p0 + 17)) ev lw d k
theorem fTh_is {ch row ev lw : Nat → Int32} {p0 d k : Nat} (hd : d < 40) : fTh ch row ev lw p0 d k = !mAway (ch (4 * k + 0)) (ch (4 * k + 1)) (ch (4 * k + 3)) (nI d) (ev d) (decide (0 < row (p0 + 1 + k))) (decide (0 < row (p0 + 9 + k))) (row (p0 + 17 + k)) (lw 1) := by
  unfold fTh mAwayOf
  rw [decide_eq_true hd, Bool.true_and]; rfl
theorem fTh_t {ch row ev lw : Nat → Int32} {p0 d k : Nat} (hd : d < 40) (h : ¬ mAway (ch (4 * k + 0)) (ch (4 * k + 1)) (ch (4 * k + 3)) (nI d) (ev d) (decide (0 < row (p0 + 1 + k))) (decide (0 < row (p0 + 9 + k))) (row (p0 + 17 + k)) (lw 1) = true) : fTh ch row ev lw p0 d k = true := by
  rw [fTh_is hd, Bool.eq_false_iff.mpr h]; rfl
theorem fTh_f {ch row ev lw : Nat → Int32} {p0 d k : Nat} (hd : d < 40) (h : mAway (ch (4 * k + 0)) (ch (4 * k + 1)) (ch (4 * k + 3)) (nI d) (ev d) (decide (0 < row (p0 + 1 + k))) (decide (0 < row (p0 + 9 + k))) (row (p0 + 17 + k)) (lw 1) = true) : fTh ch row ev lw p0 d k = false := by
  rw [fTh_is hd, h]; rfl
/-- the second loop: AWAY, SICK, KNOCK of the first k -/
def DayB (th : Int32) (row X : Nat → Int32) (p0 k : Nat) : Prop :=
  (∀ c : Nat, c < 8 → X (p0 + 17 + c) = if c < k then mAw th c (row (p0 + 17 + c)) else row (p0 + 17 + c)) ∧
  (∀ c : Nat, c < 8 → X (p0 + 1 + c) = if c < k then mDecR (row (p0 + 1 + c)) else row (p0 + 1 + c)) ∧
  (∀ c : Nat, c < 8 → X (p0 + 9 + c) = if c < k then mDecR (row (p0 + 9 + c)) else row (p0 + 9 + c)) ∧
  ∀ i : Nat, i ≤ p0 ∨ p0 + 25 ≤ i → X i = row i
theorem DayB_0 {th : Int32} {row : Nat → Int32} {p0 : Nat} : DayB th row row p0 0 :=
  ⟨fun c _ => (if_neg (Nat.not_lt_zero c)).symm, fun c _ => (if_neg (Nat.not_lt_zero c)).symm, fun c _ => (if_neg (Nat.not_lt_zero c)).symm, fun _ _ => rfl⟩
theorem DayB_s {th a b d : Int32} {row X : Nat → Int32} {p0 k : Nat} (h : DayB th row X p0 k) (hk : k < 8) (ha : a = mAw th k (X (p0 + 17 + k))) (hb : b = mDecR (X (p0 + 1 + k))) (hd : d = mDecR (X (p0 + 9 + k))) : DayB th row (upd (upd (upd X (p0 + 17 + k) a) (p0 + 1 + k) b) (p0 + 9 + k) d) p0 (k + 1) := by
  obtain ⟨h1, h2, h3, h4⟩ := h
  have e1 := h1 k hk
  have e2 := h2 k hk
  have e3 := h3 k hk
  rw [if_neg (Nat.lt_irrefl k)] at e1 e2 e3
  rw [e1] at ha
  rw [e2] at hb
  rw [e3] at hd
  refine ⟨fun c hc => ?_, fun c hc => ?_, fun c hc => ?_, fun i hi => ?_⟩
  · by_cases e : c = k
    · subst e; rw [upd_ne _ _ (by omega), upd_ne _ _ (by omega), upd_is, if_pos (by omega)]; exact ha
    · rw [upd_ne _ _ (by omega), upd_ne _ _ (by omega), upd_ne _ _ (by omega), h1 c hc]
      by_cases q : c < k
      · rw [if_pos q, if_pos (by omega)]
      · rw [if_neg q, if_neg (by omega)]
  · by_cases e : c = k
    · subst e; rw [upd_ne _ _ (by omega), upd_is, if_pos (by omega)]; exact hb
    · rw [upd_ne _ _ (by omega), upd_ne _ _ (by omega), upd_ne _ _ (by omega), h2 c hc]
      by_cases q : c < k
      · rw [if_pos q, if_pos (by omega)]
      · rw [if_neg q, if_neg (by omega)]
  · by_cases e : c = k
    · subst e; rw [upd_is, if_pos (by omega)]; exact hd
    · rw [upd_ne _ _ (by omega), upd_ne _ _ (by omega), upd_ne _ _ (by omega), h3 c hc]
      by_cases q : c < k
      · rw [if_pos q, if_pos (by omega)]
      · rw [if_neg q, if_neg (by omega)]
  · rw [upd_ne _ _ (by omega), upd_ne _ _ (by omega), upd_ne _ _ (by omega)]; exact h4 i hi
theorem aw_0 {th : Int32} {k : Nat} {x : Int32} (h : (th >>> (nI k &&& 31)) &&& 1 = 1) : 0 = mAw th k x := by
  unfold mAw; rw [if_neg ((and1_iff _).mp h)]
theorem aw_1 {th : Int32} {k : Nat} {x : Int32} (h : ¬ (th >>> (nI k &&& 31)) &&& 1 = 1) : x + 1 = mAw th k x := by
  unfold mAw; rw [if_pos (Classical.not_not.mp (fun q => h ((and1_iff _).mpr q)))]
theorem dec_0 {x y : Int32} (e : x = y) (h : x ≤ 0) : x - 0 = mDecR y := by
  unfold mDecR; rw [if_neg (Int32.not_lt.mpr (e ▸ h)), e, Int32.sub_zero]
theorem dec_1 {x y : Int32} (e : x = y) (h : ¬ x ≤ 0) : x - 1 = mDecR y := by
  unfold mDecR; rw [if_pos (Int32.not_le.mp (e ▸ h)), e]
/-- those who catch it -/
def fCa (ch lw : Nat → Int32) (sk : Int32) (si : Nat → Int32) (n : Nat) : Nat → Bool := fun c => decide (xC ch 0 c = 5) && decide (si c = 0) && mTouch (xC ch 2) lw sk n c
/-- the third loop -/
def DayC (ch lw : Nat → Int32) (sk : Int32) (Y X : Nat → Int32) (n p0 k : Nat) : Prop :=
  (∀ c : Nat, c < 8 → X (p0 + 1 + c) = if c < k ∧ fCa ch lw sk (xR Y (p0 + 1)) n c = true then lw 3 else Y (p0 + 1 + c)) ∧
  ∀ i : Nat, i ≤ p0 ∨ p0 + 9 ≤ i → X i = Y i
theorem DayC_0 {ch lw : Nat → Int32} {sk : Int32} {Y : Nat → Int32} {n p0 : Nat} : DayC ch lw sk Y Y n p0 0 :=
  ⟨fun c _ => (if_neg (fun q => Nat.not_lt_zero c q.1)).symm, fun _ _ => rfl⟩
theorem DayC_y {ch lw : Nat → Int32} {sk : Int32} {Y X : Nat → Int32} {n p0 k : Nat} (h : DayC ch lw sk Y X n p0 k) (hk : k < 8) (hf : fCa ch lw sk (xR Y (p0 + 1)) n k = true) : DayC ch lw sk Y (upd X (p0 + 1 + k) (lw 3)) n p0 (k + 1) := by
  refine ⟨fun c hc => ?_, fun i hi => by rw [upd_ne _ _ (by omega)]; exact h.2 i hi⟩
  by_cases e : c = k
  · subst e; rw [upd_is, if_pos ⟨by omega, hf⟩]
  · rw [upd_ne _ _ (by omega), h.1 c hc]
    by_cases q : c < k ∧ fCa ch lw sk (xR Y (p0 + 1)) n c = true
    · rw [if_pos q, if_pos ⟨by omega, q.2⟩]
    · rw [if_neg q, if_neg (fun w => q ⟨by omega, w.2⟩)]
theorem DayC_n {ch lw : Nat → Int32} {sk : Int32} {Y X : Nat → Int32} {n p0 k : Nat} (h : DayC ch lw sk Y X n p0 k) (hf : ¬ fCa ch lw sk (xR Y (p0 + 1)) n k = true) : DayC ch lw sk Y X n p0 (k + 1) := by
  refine ⟨fun c hc => ?_, h.2⟩
  rw [h.1 c hc]
  by_cases q : c < k ∧ fCa ch lw sk (xR Y (p0 + 1)) n c = true
  · rw [if_pos q, if_pos ⟨by omega, q.2⟩]
  · rw [if_neg q, if_neg (fun w => by
      by_cases e : c = k
      · exact hf (e ▸ w.2)
      · exact q ⟨by omega, w.2⟩)]
/-- SICK at k, before it is looked at in the third loop -/
theorem DayC_at {ch lw : Nat → Int32} {sk : Int32} {Y X : Nat → Int32} {n p0 k : Nat} (h : DayC ch lw sk Y X n p0 k) (hk : k < 8) : X (p0 + 1 + k) = Y (p0 + 1 + k) := by
  rw [h.1 k hk, if_neg (fun q => Nat.lt_irrefl k q.1)]
theorem fCa_t {ch lw : Nat → Int32} {sk : Int32} {Y X : Nat → Int32} {n p0 k : Nat} (h : DayC ch lw sk Y X n p0 k) (hk : k < 8) (h1 : ch (4 * k + 0) = 5) (h2 : X (p0 + 1 + k) = 0) (h3 : mTouch (fun o => ch (4 * o + 2)) lw sk n k = true) : fCa ch lw sk (xR Y (p0 + 1)) n k = true := by
  rw [DayC_at h hk] at h2
  unfold fCa
  rw [decide_eq_true (show xC ch 0 k = 5 from h1), decide_eq_true (show xR Y (p0 + 1) k = 0 from h2), show mTouch (xC ch 2) lw sk n k = true from h3]; rfl
theorem fCa_f {ch lw : Nat → Int32} {sk : Int32} {Y X : Nat → Int32} {n p0 k : Nat} (h : DayC ch lw sk Y X n p0 k) (hk : k < 8) (hn : ¬ ch (4 * k + 0) = 5 ∨ ¬ X (p0 + 1 + k) = 0 ∨ ¬ mTouch (fun o => ch (4 * o + 2)) lw sk n k = true) : ¬ fCa ch lw sk (xR Y (p0 + 1)) n k = true := fun q => by
  unfold fCa at q
  rw [Bool.and_eq_true, Bool.and_eq_true] at q
  rcases hn with h1 | h1 | h1
  · exact h1 (of_decide_eq_true q.1.1)
  · rw [DayC_at h hk] at h1; exact h1 (of_decide_eq_true q.1.2)
  · exact h1 q.2
/-- a day has gone on the row from p0 on -/
def DayP (ch row X lw : Nat → Int32) (n p0 d : Nat) (th : Int32) : Prop :=
  (∀ c : Nat, c < n → X (p0 + 17 + c) = mAw th c (row (p0 + 17 + c))) ∧
  (∀ c : Nat, c < n → X (p0 + 9 + c) = mDecR (row (p0 + 9 + c))) ∧
  (∀ c : Nat, c < n → X (p0 + 1 + c) = if fCa ch lw (mSick (xR row (p0 + 1)) n) (fun c => mDecR (row (p0 + 1 + c))) n c = true then lw 3 else mDecR (row (p0 + 1 + c))) ∧
  X p0 = nI (d + 1) ∧ ∀ i : Nat, i < p0 ∨ p0 + 25 ≤ i → X i = row i
theorem fCa_cg {ch lw : Nat → Int32} {sk : Int32} {si si2 : Nat → Int32} {n c : Nat} (h : si c = si2 c) : fCa ch lw sk si n c = fCa ch lw sk si2 n c := by
  unfold fCa; rw [h]
theorem DayP_of {ch row Y X lw : Nat → Int32} {n p0 d kb kc : Nat} {th sk : Int32} (hB : DayB th row Y p0 kb) (hC : DayC ch lw sk Y X n p0 kc) (hn : n ≤ 8) (hb : n ≤ kb) (hc : n ≤ kc) (hs : sk = mSick (xR row (p0 + 1)) n) : DayP ch row (upd X p0 (nI (d + 1))) lw n p0 d th := by
  obtain ⟨b1, b2, b3, b4⟩ := hB
  obtain ⟨c1, c2⟩ := hC
  refine ⟨fun c h => ?_, fun c h => ?_, fun c h => ?_, upd_is _ _ _, fun i hi => ?_⟩
  · rw [upd_ne _ _ (by omega), c2 _ (by omega), b1 c (by omega), if_pos (by omega)]
  · rw [upd_ne _ _ (by omega), c2 _ (by omega), b3 c (by omega), if_pos (by omega)]
  · have e : Y (p0 + 1 + c) = mDecR (row (p0 + 1 + c)) := by rw [b2 c (by omega), if_pos (by omega)]
    rw [upd_ne _ _ (by omega), c1 c (by omega), ← hs, e, fCa_cg (si := xR Y (p0 + 1)) (si2 := fun c => mDecR (row (p0 + 1 + c))) e]
    by_cases q : fCa ch lw sk (fun c => mDecR (row (p0 + 1 + c))) n c = true
    · rw [if_pos q, if_pos ⟨by omega, q⟩]
    · rw [if_neg q, if_neg (fun w => q w.2)]
  · rw [upd_ne _ _ (by omega), c2 _ (by omega), b4 _ (by omega)]
def mFd (g : Nat → Int32) (T : Nat → Int32) (t n : Nat) : Nat → Int32 := fun i => if t ≤ i ∧ i < t + n then g (i - t) else T i
theorem mFd_0 (g T : Nat → Int32) (t : Nat) : T = mFd g T t 0 := by
  funext i
  unfold mFd
  rw [if_neg (by omega)]
theorem mFd_u {g T X : Nat → Int32} {t k s : Nat} {v : Int32} (h : X = mFd g T t k) (hs : s = t + k) (hv : v = g k) : upd X s v = mFd g T t (k + 1) := by
  subst h; subst hs; subst hv
  funext i
  by_cases e : i = t + k
  · rw [e, upd_is]
    unfold mFd
    rw [if_pos (by omega), show t + k - t = k from by omega]
  · rw [upd_ne _ _ e]
    unfold mFd
    by_cases q : t ≤ i ∧ i < t + k
    · rw [if_pos q, if_pos (by omega)]
    · rw [if_neg q, if_neg (by omega)]
/-! a knock at a set of houses, on the reference's row -/
def kB (v : Int32) (ch : Nat → Int32) : Nat → Bool := fun c => decide ((v >>> (ch (4 * c + 2) &&& 31)) &&& 1 = 1)
def KnB (ch lw : Nat → Int32) (v : Int32) (row X : Nat → Int32) (p0 k : Nat) : Prop :=
  (∀ c : Nat, c < 8 → X (p0 + 9 + c) = if c < k ∧ kB v ch c = true then lw 0 else row (p0 + 9 + c)) ∧
  ∀ i : Nat, i < p0 + 9 ∨ p0 + 17 ≤ i → X i = row i
theorem KnB_0 {ch lw row : Nat → Int32} {v x : Int32} {p0 : Nat} (hx : x = 0) : KnB ch lw v row row p0 0 ∧ x = nI (mCt (kB v ch) 0) :=
  ⟨⟨fun c _ => (if_neg (fun q => Nat.not_lt_zero c q.1)).symm, fun _ _ => rfl⟩, hx⟩
theorem KnB_y {ch lw row X : Nat → Int32} {v x : Int32} {p0 k : Nat} (h : KnB ch lw v row X p0 k ∧ x = nI (mCt (kB v ch) k)) (hk : k < 8) (hf : (v >>> (ch (4 * k + 2) &&& 31)) &&& 1 = 1) : KnB ch lw v row (upd X (p0 + 9 + k) (lw 0)) p0 (k + 1) ∧ x + 1 = nI (mCt (kB v ch) (k + 1)) := by
  have hb : kB v ch k = true := decide_eq_true hf
  refine ⟨⟨fun c hc => ?_, fun i hi => by rw [upd_ne _ _ (by omega)]; exact h.1.2 i hi⟩, ?_⟩
  · by_cases e : c = k
    · subst e; rw [upd_is, if_pos ⟨by omega, hb⟩]
    · rw [upd_ne _ _ (by omega), h.1.1 c hc]
      by_cases q : c < k ∧ kB v ch c = true
      · rw [if_pos q, if_pos ⟨by omega, q.2⟩]
      · rw [if_neg q, if_neg (fun w => q ⟨by omega, w.2⟩)]
  · show _ = nI (if kB v ch k = true then _ else _)
    rw [if_pos hb, h.2, nI_1]
theorem KnB_n {ch lw row X : Nat → Int32} {v x : Int32} {p0 k : Nat} (h : KnB ch lw v row X p0 k ∧ x = nI (mCt (kB v ch) k)) (hf : ¬ (v >>> (ch (4 * k + 2) &&& 31)) &&& 1 = 1) : KnB ch lw v row X p0 (k + 1) ∧ x = nI (mCt (kB v ch) (k + 1)) := by
  have hb : ¬ kB v ch k = true := fun q => hf (of_decide_eq_true q)
  refine ⟨⟨fun c hc => ?_, h.1.2⟩, ?_⟩
  · rw [h.1.1 c hc]
    by_cases q : c < k ∧ kB v ch c = true
    · rw [if_pos q, if_pos ⟨by omega, q.2⟩]
    · rw [if_neg q, if_neg (fun w => by
        by_cases e : c = k
        · exact hb (e ▸ w.2)
        · exact q ⟨by omega, w.2⟩)]
  · show _ = nI (if kB v ch k = true then _ else _)
    rw [if_neg hb]; exact h.2

/-! the model's functions see their rows only so far (draft, not yet in all.sh) -/
theorem meas_s {n k j : Nat} (h : n - k < j + 1) (hk : ¬ n ≤ k) : n - (k + 1) < j := by omega
def Ag (n : Nat) (f g : Nat → Int32) : Prop := ∀ c, c < n → f c = g c
theorem Ag.rf {n : Nat} {f : Nat → Int32} : Ag n f f := fun _ _ => rfl
theorem Ag.symm {n : Nat} {f g : Nat → Int32} (h : Ag n f g) : Ag n g f := fun c hc => (h c hc).symm
theorem Ag.trans {n : Nat} {f g k : Nat → Int32} (h : Ag n f g) (h2 : Ag n g k) : Ag n f k := fun c hc => (h c hc).trans (h2 c hc)
theorem Ag.le {n m : Nat} {f g : Nat → Int32} (h : Ag n f g) (hm : m ≤ n) : Ag m f g := fun c hc => h c (by omega)
theorem Ag_set {n : Nat} {f g : Nat → Int32} (h : Ag n f g) (k : Nat) (v : Int32) : Ag n (upd f k v) (upd g k v) := fun c hc => by
  by_cases e : c = k
  · rw [e, upd_is, upd_is]
  · rw [upd_ne _ _ e, upd_ne _ _ e]; exact h c hc
theorem Ag_add {n : Nat} {f g : Nat → Int32} (h : Ag n f g) (v : Int32) : Ag (n + 1) (upd f n v) (upd g n v) := fun c hc => by
  by_cases e : c = n
  · rw [e, upd_is, upd_is]
  · rw [upd_ne _ _ e, upd_ne _ _ e]; exact h c (by omega)
theorem mBits_cg {f g : Nat → Bool} : ∀ k : Nat, (∀ i, i < k → f i = g i) → mBits f k = mBits g k
  | 0, _ => rfl
  | k + 1, h => by
    unfold mBits
    rw [h k (by omega), mBits_cg k (fun i hi => h i (by omega))]
theorem mCt_cg {f g : Nat → Bool} : ∀ k : Nat, (∀ i, i < k → f i = g i) → mCt f k = mCt g k
  | 0, _ => rfl
  | k + 1, h => by
    unfold mCt
    rw [h k (by omega), mCt_cg k (fun i hi => h i (by omega))]
theorem mSumI_cg {f g : Nat → Int32} : ∀ k : Nat, Ag k f g → mSumI f k = mSumI g k
  | 0, _ => rfl
  | k + 1, h => by
    unfold mSumI
    rw [h k (by omega), mSumI_cg k (h.le (by omega))]
theorem mSick_cg {n : Nat} {si si2 : Nat → Int32} (h : Ag n si si2) : mSick si n = mSick si2 n := mBits_cg n (fun i hi => by rw [h i hi])
section CG
variable {n td : Nat} {kd ka ho fa si kn aw ev lw kd2 ka2 ho2 fa2 si2 kn2 aw2 ev2 lw2 : Nat → Int32}
theorem mAwayOf_cg (hkd : Ag n kd kd2) (hka : Ag n ka ka2) (hfa : Ag n fa fa2) (hsi : Ag n si si2) (hkn : Ag n kn kn2) (haw : Ag n aw aw2) (hev : Ag 40 ev ev2) (hlw : Ag 4 lw lw2) {k : Nat} (hk : k < n) : mAwayOf kd ka fa si kn aw ev lw td k = mAwayOf kd2 ka2 fa2 si2 kn2 aw2 ev2 lw2 td k := by
  unfold mAwayOf
  by_cases e : td < 40
  · rw [hkd k hk, hka k hk, hfa k hk, hsi k hk, hkn k hk, haw k hk, hev td e, hlw 1 (by decide)]
  · rw [decide_eq_false e, Bool.false_and, Bool.false_and]
theorem mThere_cg (hkd : Ag n kd kd2) (hka : Ag n ka ka2) (hfa : Ag n fa fa2) (hsi : Ag n si si2) (hkn : Ag n kn kn2) (haw : Ag n aw aw2) (hev : Ag 40 ev ev2) (hlw : Ag 4 lw lw2) : mThere kd ka fa si kn aw ev lw td n = mThere kd2 ka2 fa2 si2 kn2 aw2 ev2 lw2 td n :=
  mBits_cg n (fun i hi => by rw [mAwayOf_cg hkd hka hfa hsi hkn haw hev hlw hi])
theorem mTouch_cg (hho : Ag n ho ho2) (hlw : Ag 4 lw lw2) {sk : Int32} {k : Nat} (hk : k < n) : mTouch ho lw sk n k = mTouch ho2 lw2 sk n k := by
  unfold mTouch
  rw [hlw 2 (by decide), mCt_cg (f := fun o => decide (¬ o = k) && mBit sk o && decide (ho o = ho k)) (g := fun o => decide (¬ o = k) && mBit sk o && decide (ho2 o = ho2 k)) n (fun i hi => by rw [hho i hi, hho k hk])]
theorem mMap_cg {f : Nat → Int32 → Int32} (h : Ag n si si2) : Ag n (mMap f si n) (mMap f si2 n) := fun c hc => by
  unfold mMap; rw [h c hc]
theorem mSpr_cg {f g : Nat → Bool} {v w : Int32} (hf : ∀ c, c < n → f c = g c) (hv : v = w) (h : Ag n si si2) : Ag n (mSpr f v si n) (mSpr g w si2 n) := fun c hc => by
  unfold mSpr; rw [hf c hc, hv, h c hc]
theorem mSi1_cg (hkd : Ag n kd kd2) (hho : Ag n ho ho2) (hlw : Ag 4 lw lw2) (hsi : Ag n si si2) : Ag n (mSi1 kd ho lw si n) (mSi1 kd2 ho2 lw2 si2 n) :=
  mSpr_cg (fun c hc => by rw [hkd c hc, mMap_cg hsi c hc, mTouch_cg hho hlw hc, mSick_cg hsi]) (hlw 3 (by decide)) (mMap_cg hsi)
theorem mKn1_cg (hho : Ag n ho ho2) (hlw : Ag 4 lw lw2) (hkn : Ag n kn kn2) {v : Int32} : Ag n (mKn1 ho lw v kn n) (mKn1 ho2 lw2 v kn2 n) :=
  mSpr_cg (fun c hc => by rw [hho c hc]) (hlw 0 (by decide)) hkn
theorem mKnS_cg (hho : Ag n ho ho2) (hlw : Ag 4 lw lw2) (hkn : Ag n kn kn2) {v : Int32} : ∀ j : Nat, Ag n (mKnS ho lw v kn n j) (mKnS ho2 lw2 v kn2 n j)
  | 0 => hkn
  | j + 1 => by
    unfold mKnS
    split
    · exact mKn1_cg hho hlw (mKnS_cg hho hlw hkn j)
    · exact mKnS_cg hho hlw hkn j
/-- three rows agree -/
def Ag3 (n : Nat) (s s2 : mT3) : Prop := Ag n s.1 s2.1 ∧ Ag n s.2.1 s2.2.1 ∧ Ag n s.2.2 s2.2.2
theorem mGo_cg (hkd : Ag n kd kd2) (hka : Ag n ka ka2) (hho : Ag n ho ho2) (hfa : Ag n fa fa2) (hev : Ag 40 ev ev2) (hlw : Ag 4 lw lw2) {s s2 : mT3} (hs : Ag3 n s s2) : ∀ i : Nat, Ag3 n (mGo kd ka ho fa ev lw n s td i) (mGo kd2 ka2 ho2 fa2 ev2 lw2 n s2 td i)
  | 0 => hs
  | i + 1 => by
    have h := mGo_cg hkd hka hho hfa hev hlw hs i
    unfold mGo
    exact ⟨mSi1_cg hkd hho hlw h.1, mMap_cg h.2.1, by rw [mThere_cg hkd hka hfa h.1 h.2.1 h.2.2 hev hlw]; exact mMap_cg h.2.2⟩
theorem mDI_cg (hkd : Ag n kd kd2) (hka : Ag n ka ka2) (hho : Ag n ho ho2) (hfa : Ag n fa fa2) (hev : Ag 40 ev ev2) (hlw : Ag 4 lw lw2) {s s2 : mT3} (hs : Ag3 n s s2) (i : Nat) : mDI kd ka ho fa ev lw n s td i = mDI kd2 ka2 ho2 fa2 ev2 lw2 n s2 td i := by
  have h := mGo_cg (td := td) hkd hka hho hfa hev hlw hs i
  unfold mDI
  exact mThere_cg hkd hka hfa h.1 h.2.1 h.2.2 hev hlw
end CG
theorem mBits_lt (f : Nat → Bool) : ∀ n : Nat, n ≤ 8 → (mBits f n).toBitVec.toNat < 256
  | 0, _ => by show (0 : Int32).toBitVec.toNat < 256; decide
  | k + 1, h => by
    have h1 := mBits_lt f k (by omega)
    have h2 : ∀ k, k < 8 → ((1 : Int32) <<< (nI k &&& 31)).toBitVec.toNat < 256 := by decide
    unfold mBits
    split
    · rw [Int32.toBitVec_or, BitVec.toNat_or]
      exact Nat.or_lt_two_pow (n := 8) h1 (h2 k (by omega))
    · exact h1
/-! days on the reference's row are days of the model -/
theorem dec_eq {x : Int32} {c : Nat} (h : ¬ x < 0) : mDecR x = mDec c x := by
  unfold mDecR mDec mMax
  by_cases e : 0 < x
  · have h1 : (x - 1).toInt = x.toInt - 1 := by
      rw [Int32.lt_iff_toInt_lt, show (0 : Int32).toInt = 0 from by decide] at e
      have h3 := x.toInt_lt
      rw [Int32.toInt_sub, show (1 : Int32).toInt = 1 from by decide]
      apply Int.bmod_eq_of_le <;> omega
    rw [if_pos e]
    rw [Int32.lt_iff_toInt_lt, show (0 : Int32).toInt = 0 from by decide] at e
    split
    · rename_i q
      simp only [Int32.lt_iff_toInt_lt, Int32.le_iff_toInt_le, h1, show (0 : Int32).toInt = 0 from by decide] at q
      first | rfl | (apply Int32.toInt_inj.mp; rw [h1, show (0 : Int32).toInt = 0 from by decide]; omega)
    · rename_i q
      simp only [Int32.lt_iff_toInt_lt, Int32.le_iff_toInt_le, h1, show (0 : Int32).toInt = 0 from by decide] at q
      first | rfl | (apply Int32.toInt_inj.mp; rw [h1, show (0 : Int32).toInt = 0 from by decide]; omega)
  · have h0 : x = 0 := by
      apply Int32.toInt_inj.mp
      simp only [Int32.lt_iff_toInt_lt, show (0 : Int32).toInt = 0 from by decide] at h e ⊢
      omega
    subst h0
    rw [if_neg e]; decide
/-- SICK and KNOCK on the row, and SPELL, aren't below 0 -/
def NNr (row lw : Nat → Int32) (n p0 : Nat) : Prop := (∀ c : Nat, c < n → ¬ row (p0 + 1 + c) < 0 ∧ ¬ row (p0 + 9 + c) < 0) ∧ ¬ lw 3 < 0 ∧ ¬ lw 0 < 0
/-- the rows of the reference, as the class has them -/
abbrev s3R (row : Nat → Int32) (p0 : Nat) : mT3 := (xR row (p0 + 1), xR row (p0 + 9), xR row (p0 + 17))
/-- i days have gone on the row from p0 on -/
def GoR (ch row X ev lw : Nat → Int32) (n p0 d i : Nat) : Prop :=
  Ag3 n (s3R X p0) (mGo (xC ch 0) (xC ch 1) (xC ch 2) (xC ch 3) ev lw n (s3R row p0) d i) ∧ X p0 = nI (d + i) ∧ NNr X lw n p0 ∧ ∀ j : Nat, j < p0 ∨ p0 + 25 ≤ j → X j = row j
theorem GoR_0 {ch row ev lw : Nat → Int32} {n p0 d : Nat} (h : row p0 = nI d) (hn : NNr row lw n p0) : GoR ch row row ev lw n p0 d 0 := ⟨⟨Ag.rf, Ag.rf, Ag.rf⟩, h, hn, fun _ _ => rfl⟩
theorem nonneg_dec (c : Nat) (x : Int32) : ¬ mDec c x < 0 := by
  unfold mDec mMax
  split
  · rename_i q
    simp only [Int32.lt_iff_toInt_lt, Int32.le_iff_toInt_le, show (0 : Int32).toInt = 0 from by decide] at q ⊢
    omega
  · rename_i q
    simp only [Int32.lt_iff_toInt_lt, Int32.le_iff_toInt_le, show (0 : Int32).toInt = 0 from by decide] at q ⊢
    omega
theorem GoR_s {ch row X Y ev lw : Nat → Int32} {n p0 d i : Nat} {th : Int32} (hn : n ≤ 8) (h : GoR ch row X ev lw n p0 d i) (hP : DayP ch X Y lw n p0 (d + i) th) (hth : th = mThere (xC ch 0) (xC ch 1) (xC ch 3) (xR X (p0 + 1)) (xR X (p0 + 9)) (xR X (p0 + 17)) ev lw (d + i) n) : GoR ch row Y ev lw n p0 d (i + 1) ∧ th = mDI (xC ch 0) (xC ch 1) (xC ch 2) (xC ch 3) ev lw n (s3R row p0) d i := by
  obtain ⟨⟨a1, a2, a3⟩, b, ⟨c1, c2, c3⟩, e⟩ := h
  obtain ⟨p1, p2, p3, p4, p5⟩ := hP
  have hth2 : th = mDI (xC ch 0) (xC ch 1) (xC ch 2) (xC ch 3) ev lw n (s3R row p0) d i := by
    rw [hth]; unfold mDI
    exact mThere_cg Ag.rf Ag.rf Ag.rf a1 a2 a3 Ag.rf Ag.rf
  have q9 : ∀ c : Nat, c < n → Y (p0 + 9 + c) = mDec c (X (p0 + 9 + c)) := fun c hc => (p2 c hc).trans (dec_eq (c1 c hc).2)
  have q1 : ∀ c : Nat, c < n → Y (p0 + 1 + c) = mSi1 (xC ch 0) (xC ch 2) lw (xR X (p0 + 1)) n c := fun c hc => by
    have d1 : ∀ j : Nat, j < n → mDecR (X (p0 + 1 + j)) = mMap mDec (xR X (p0 + 1)) n j := fun j hj => by
      unfold mMap; rw [if_pos hj]; exact dec_eq (c1 j hj).1
    rw [p3 c hc]
    unfold mSi1 mSpr
    have e1 : fCa ch lw (mSick (xR X (p0 + 1)) n) (fun c => mDecR (X (p0 + 1 + c))) n c = (decide (xC ch 0 c = 5) && decide (mMap mDec (xR X (p0 + 1)) n c = 0) && mTouch (xC ch 2) lw (mSick (xR X (p0 + 1)) n) n c) := by
      unfold fCa
      show (decide (xC ch 0 c = 5) && decide (mDecR (X (p0 + 1 + c)) = 0) && _) = _
      rw [d1 c hc]
    rw [e1, d1 c hc]
    by_cases w : (decide (xC ch 0 c = 5) && decide (mMap mDec (xR X (p0 + 1)) n c = 0) && mTouch (xC ch 2) lw (mSick (xR X (p0 + 1)) n) n c) = true
    · rw [if_pos w, if_pos ⟨hc, w⟩]
    · rw [if_neg w, if_neg (fun z => w z.2)]
  refine ⟨⟨⟨?_, ?_, ?_⟩, by rw [p4]; rfl, ⟨fun c hc => ⟨?_, ?_⟩, c2, c3⟩, fun j hj => (p5 j hj).trans (e j hj)⟩, hth2⟩
  · intro c hc
    show Y (p0 + 1 + c) = _
    rw [q1 c hc]
    exact mSi1_cg Ag.rf Ag.rf Ag.rf a1 c hc
  · intro c hc
    show Y (p0 + 9 + c) = _
    rw [q9 c hc]
    have := a2 c hc
    unfold mGo
    show _ = mMap mDec _ n c
    unfold mMap
    rw [if_pos hc, ← this]; rfl
  · intro c hc
    show Y (p0 + 17 + c) = _
    rw [p1 c hc]
    have := a3 c hc
    unfold mGo
    show _ = mMap (mAw _) _ n c
    unfold mMap
    rw [if_pos hc, ← this, hth2]; rfl
  · rw [q1 c hc]
    unfold mSi1 mSpr
    split
    · exact c2
    · unfold mMap
      rw [if_pos hc]; exact nonneg_dec _ _
  · rw [q9 c hc]; exact nonneg_dec _ _
section GC
variable {ch row X Y L ev lw : Nat → Int32} {n p0 d k j n1 c : Nat} {sum r : Int32}
/-- the days' sets, by the reference's rows -/
abbrev fDI (ch row ev lw : Nat → Int32) (n p0 d : Nat) : Nat → Int32 := fun i => mDI (xC ch 0) (xC ch 1) (xC ch 2) (xC ch 3) ev lw n (s3R row p0) d i
theorem go_d (hn : n ≤ 8) (H : GoR ch row X ev lw n p0 d k ∧ d + k ≤ 40) (hj : X p0 = nI j) (hj40 : j ≤ 40) (hb : ¬ 40 ≤ j) (Q : ∀ i : Nat, i < 40 → X p0 = nI i → r = mThere (xC ch 0) (xC ch 1) (xC ch 3) (xR X (p0 + 1)) (xR X (p0 + 9)) (xR X (p0 + 17)) ev lw i n ∧ DayP ch X Y lw n p0 i r) : (GoR ch row Y ev lw n p0 d (k + 1) ∧ d + (k + 1) ≤ 40) ∧ r = fDI ch row ev lw n p0 d k ∧ r.toBitVec.toNat < 256 ∧ j = d + k := by
  have e : j = d + k := (nI_eq (by omega) (by omega)).mp (hj.symm.trans H.1.2.1)
  subst e
  obtain ⟨q1, q2⟩ := Q (d + k) (by omega) hj
  obtain ⟨g1, g2⟩ := GoR_s hn H.1 q2 q1
  exact ⟨⟨g1, by omega⟩, g2, by rw [q1]; exact mBits_lt _ n hn, rfl⟩
theorem go_c (hn : n ≤ 8) (H : (GoR ch row X ev lw n p0 d k ∧ d + k ≤ 40) ∧ sum = mSumI (fun i => mPop (fDI ch row ev lw n p0 d i)) k) (hj : X p0 = nI j) (hj40 : j ≤ 40) (hb : ¬ 40 ≤ j) (Q : ∀ i : Nat, i < 40 → X p0 = nI i → r = mThere (xC ch 0) (xC ch 1) (xC ch 3) (xR X (p0 + 1)) (xR X (p0 + 9)) (xR X (p0 + 17)) ev lw i n ∧ DayP ch X Y lw n p0 i r) (hc : r.toBitVec.toNat < 256 → nI c = mPop r) : (GoR ch row Y ev lw n p0 d (k + 1) ∧ d + (k + 1) ≤ 40) ∧ sum + nI c = mSumI (fun i => mPop (fDI ch row ev lw n p0 d i)) (k + 1) := by
  obtain ⟨g1, g2, g3, _⟩ := go_d hn H.1 hj hj40 hb Q
  refine ⟨g1, ?_⟩
  show _ = mSumI _ k + mPop (fDI ch row ev lw n p0 d k)
  rw [← g2, hc g3, H.2]
theorem go_k (H : GoR ch row X ev lw n p0 d k ∧ d + k ≤ 40) (hk : k ≤ n1) (hx : n1 ≤ k ∨ (X p0 = nI j ∧ j ≤ 40 ∧ 40 ≤ j)) : k = min n1 (40 - d) := by
  rcases hx with e | ⟨e1, e2, e3⟩
  · omega
  · have e : j = d + k := (nI_eq (by omega) (by omega)).mp (e1.symm.trans H.1.2.1)
    omega
theorem go_cf (H : (GoR ch row X ev lw n p0 d k ∧ d + k ≤ 40) ∧ sum = mSumI (fun i => mPop (fDI ch row ev lw n p0 d i)) k) (hk : k ≤ n1) (hx : n1 ≤ k ∨ (X p0 = nI j ∧ j ≤ 40 ∧ 40 ≤ j)) : sum = mComes (xC ch 0) (xC ch 1) (xC ch 2) (xC ch 3) ev lw n (s3R row p0) d n1 := by
  rw [H.2, go_k H.1 hk hx]; rfl
theorem ld_s (h : ∀ i : Nat, i < k → X (25 + i) = row i) (h2 : ∀ i : Nat, i < 25 → X i = row i) (hk : k < 25) : ∀ i : Nat, i < k + 1 → upd X (25 + k) (X k) (25 + i) = row i := fun i hi => by
  by_cases e : i = k
  · subst e; rw [upd_is]; exact h2 i hk
  · rw [upd_ne _ _ (by omega)]; exact h i (by omega)
theorem ld_ag (hL : ∀ i : Nat, i < 25 → L (25 + i) = row i) (hn : n ≤ 8) : Ag3 n (s3R L 25) (s3R row 0) := by
  refine ⟨fun c hc => ?_, fun c hc => ?_, fun c hc => ?_⟩
  · show L (25 + 1 + c) = row (0 + 1 + c)
    have := hL (1 + c) (by omega)
    rw [show 25 + 1 + c = 25 + (1 + c) from by omega, this, show 0 + 1 + c = 1 + c from by omega]
  · show L (25 + 9 + c) = row (0 + 9 + c)
    have := hL (9 + c) (by omega)
    rw [show 25 + 9 + c = 25 + (9 + c) from by omega, this, show 0 + 9 + c = 9 + c from by omega]
  · show L (25 + 17 + c) = row (0 + 17 + c)
    have := hL (17 + c) (by omega)
    rw [show 25 + 17 + c = 25 + (17 + c) from by omega, this, show 0 + 17 + c = 17 + c from by omega]
theorem ld_nn (hL : ∀ i : Nat, i < 25 → L (25 + i) = row i) (hn : n ≤ 8) (h : NNr row lw n 0) : NNr L lw n 25 := by
  obtain ⟨a1, a2, _⟩ := ld_ag hL hn
  refine ⟨fun c hc => ?_, h.2⟩
  have b1 : L (25 + 1 + c) = row (0 + 1 + c) := a1 c hc
  have b2 : L (25 + 9 + c) = row (0 + 9 + c) := a2 c hc
  rw [b1, b2]; exact h.1 c hc
theorem mComes_cg {kd ka ho fa : Nat → Int32} {s s2 : mT3} (h : Ag3 n s s2) : mComes kd ka ho fa ev lw n s d n1 = mComes kd ka ho fa ev lw n s2 d n1 := by
  unfold mComes
  exact mSumI_cg _ (fun i _ => by
    show mPop _ = mPop _
    rw [mDI_cg Ag.rf Ag.rf Ag.rf Ag.rf Ag.rf Ag.rf h i])
/-- THERE, with its bounds -/
def mThA (kd ka ho fa ev lw : Nat → Int32) (n : Nat) (s : mT3) (d : Nat) (m : Int32) : Int32 := if m < 0 ∨ 20 < m then -1 else mComes kd ka ho fa ev lw n s d m.toNatClampNeg
theorem th_ok {kd ka ho fa : Nat → Int32} {s : mT3} (hk : k ≤ 20) : mComes kd ka ho fa ev lw n s d k = mThA kd ka ho fa ev lw n s d (nI k) := by
  unfold mThA
  rw [if_neg (fun q => q.elim (fun q => nI_pos (by omega) q) (fun q => by
    have := (nI_ltI (a := 20) (b := k) (by decide) (by omega)).mp q
    omega)), nI_clamp (by omega)]
theorem th_no {kd ka ho fa : Nat → Int32} {s : mT3} {m : Int32} (h : ¬ (¬ m < 0 ∧ ¬ 20 < m)) : -1 = mThA kd ka ho fa ev lw n s d m := by
  unfold mThA
  rw [if_pos (by
    by_cases e : m < 0
    · exact Or.inl e
    · exact Or.inr (by
        by_cases e2 : 20 < m
        · exact e2
        · exact absurd ⟨e, e2⟩ h))]
theorem go_y {C T c0 t0 : Nat → Int32} (hn : n ≤ 8) (H : (GoR ch row X ev lw n p0 d k ∧ d + k ≤ 40) ∧ C = mFd (fDI ch row ev lw n p0 d) c0 d k ∧ T = mFd (fDI ch row ev lw n p0 d) t0 d k) (hj : X p0 = nI j) (hj40 : j ≤ 40) (hb : ¬ 40 ≤ j) (Q : ∀ i : Nat, i < 40 → X p0 = nI i → r = mThere (xC ch 0) (xC ch 1) (xC ch 3) (xR X (p0 + 1)) (xR X (p0 + 9)) (xR X (p0 + 17)) ev lw i n ∧ DayP ch X Y lw n p0 i r) : (GoR ch row Y ev lw n p0 d (k + 1) ∧ d + (k + 1) ≤ 40) ∧ upd C j r = mFd (fDI ch row ev lw n p0 d) c0 d (k + 1) ∧ upd T j r = mFd (fDI ch row ev lw n p0 d) t0 d (k + 1) := by
  obtain ⟨g1, g2, _, g4⟩ := go_d hn H.1 hj hj40 hb Q
  exact ⟨g1, mFd_u H.2.1 g4 g2, mFd_u H.2.2 g4 g2⟩
theorem go_yf {C T c0 t0 : Nat → Int32} (H : (GoR ch row X ev lw n p0 d k ∧ d + k ≤ 40) ∧ C = mFd (fDI ch row ev lw n p0 d) c0 d k ∧ T = mFd (fDI ch row ev lw n p0 d) t0 d k) (hk : k ≤ n1) (hn1 : n1 ≤ 40) (hd : d ≤ 40) (hx : n1 ≤ k ∨ X p0 = nI 40) : GoR ch row X ev lw n p0 d (mDaysT d (nI n1) - d) ∧ C = mFd (fDI ch row ev lw n p0 d) c0 d (mDaysT d (nI n1) - d) ∧ T = mFd (fDI ch row ev lw n p0 d) t0 d (mDaysT d (nI n1) - d) := by
  have e : k = mDaysT d (nI n1) - d := by
    have e2 : k = min n1 (40 - d) := by
      rcases hx with e | e
      · omega
      · have := (nI_eq (a := d + k) (b := 40) (by omega) (by omega)).mp (H.1.1.2.1.symm.trans e)
        omega
    unfold mDaysT
    rw [if_neg (days_ok hn1), nI_clamp (by omega)]; omega
  rw [← e]; exact ⟨H.1.1, H.2⟩
theorem go_y0 {c0 t0 : Nat → Int32} {m : Int32} (h : row p0 = nI d) (nn : NNr row lw n p0) (hm : ¬ (¬ m < 0 ∧ ¬ 40 < m)) : GoR ch row row ev lw n p0 d (mDaysT d m - d) ∧ c0 = mFd (fDI ch row ev lw n p0 d) c0 d (mDaysT d m - d) ∧ t0 = mFd (fDI ch row ev lw n p0 d) t0 d (mDaysT d m - d) := by
  rw [← (days_nr (td := d) hm).1, Nat.sub_self]
  exact ⟨GoR_0 h nn, mFd_0 _ _ _, mFd_0 _ _ _⟩
end GC

/-! how many are in a set of eight -/
def q1 (x : Int32) : Int32 := x - ((mUshr x 1) &&& 1431655765)
def q2 (x : Int32) : Int32 := (x &&& 858993459) + ((mUshr x 2) &&& 858993459)
def q3 (x : Int32) : Int32 := (x + mUshr x 4) &&& 252645135
def q4 (x : Int32) : Int32 := x + mUshr x 8
def q5 (x : Int32) : Int32 := (x + mUshr x 16) &&& 63
theorem mPop_q (x : Int32) : mPop x = q5 (q4 (q3 (q2 (q1 x)))) := rfl
def r1 (m : Nat) : Nat := m - (m / 2 &&& 85)
def r2 (m : Nat) : Nat := (m &&& 51) + (m / 4 &&& 51)
def r3 (m : Nat) : Nat := m + m / 16 &&& 15
def pop8 (m : Nat) : Nat := r3 (r2 (r1 m))
theorem q1_n : ∀ m : Nat, m < 256 → q1 (nI m) = nI (r1 m) ∧ r1 m < 256 := by decide +kernel
theorem q2_n : ∀ m : Nat, m < 256 → q2 (nI m) = nI (r2 m) ∧ r2 m < 128 := by decide +kernel
theorem q3_n : ∀ m : Nat, m < 128 → q3 (nI m) = nI (r3 m) ∧ r3 m < 16 := by decide +kernel
theorem q45_n : ∀ m : Nat, m < 16 → q5 (q4 (nI m)) = nI m := by decide +kernel
theorem pop_n {m : Nat} (h : m < 256) : mPop (nI m) = nI (pop8 m) := by
  obtain ⟨e1, h1⟩ := q1_n m h
  obtain ⟨e2, h2⟩ := q2_n _ h1
  obtain ⟨e3, h3⟩ := q3_n _ h2
  rw [mPop_q, e1, e2, e3, q45_n _ h3]; rfl
theorem pop_s : ∀ m : Nat, m < 256 → ¬ m = 0 → pop8 m = pop8 (m &&& (m - 1)) + 1 := by decide +kernel
theorem pop_8 : ∀ m : Nat, m < 256 → pop8 m ≤ 8 := by decide +kernel
theorem and_n : ∀ m : Nat, m < 256 → nI m &&& (nI m - 1) = nI (m &&& (m - 1)) := by decide +kernel
theorem pop_m (m : Nat) (h : m < 256) (h0 : ¬ m = 0) : mPop (nI m) = mPop (nI m &&& (nI m - 1)) + 1 := by
  have h2 : m &&& (m - 1) < 256 := Nat.lt_of_le_of_lt Nat.and_le_left h
  rw [and_n m h, pop_n h, pop_n h2, pop_s m h h0, nI_1]
theorem i32_of {x : Int32} (h : x.toBitVec.toNat < 256) : x = nI x.toBitVec.toNat := by
  apply Int32.toBitVec_inj.mp
  apply BitVec.eq_of_toNat_eq
  show _ = (BitVec.ofNat 32 _).toNat
  rw [BitVec.toNat_ofNat]; omega
/-- how many are in a set of children -/
theorem pop_is {x : Int32} (h : x.toBitVec.toNat < 256) : ∃ k : Nat, k ≤ 8 ∧ mPop x = nI k := by
  refine ⟨pop8 x.toBitVec.toNat, pop_8 _ h, ?_⟩
  have e := pop_n h
  rw [← i32_of h] at e
  exact e
/-! bits of sets -/
def bt (v : Int32) (i : Nat) : Bool := v.toBitVec.getLsbD i
theorem bt_ext {v w : Int32} (h : ∀ i, i < 32 → bt v i = bt w i) : v = w := by
  apply Int32.toBitVec_inj.mp
  exact BitVec.eq_of_getLsbD_eq (fun i hi => h i hi)
theorem bt_or (v w : Int32) (i : Nat) : bt (v ||| w) i = (bt v i || bt w i) := by
  unfold bt; rw [Int32.toBitVec_or, BitVec.getLsbD_or]
theorem bt_and (v w : Int32) (i : Nat) : bt (v &&& w) i = (bt v i && bt w i) := by
  unfold bt; rw [Int32.toBitVec_and, BitVec.getLsbD_and]
theorem bt_xor (v w : Int32) (i : Nat) : bt (v ^^^ w) i = (bt v i ^^ bt w i) := by
  unfold bt; rw [Int32.toBitVec_xor, BitVec.getLsbD_xor]
theorem bt_m1 {i : Nat} (hi : i < 32) : bt (-1) i = true := by
  have h : ∀ i, i < 32 → bt (-1) i = true := by decide
  exact h i hi
theorem bt_one {k : Nat} (hk : k < 8) {i : Nat} (hi : i < 32) : bt ((1 : Int32) <<< (nI k &&& 31)) i = decide (i = k) := by
  have h : ∀ k, k < 8 → ∀ i, i < 32 → bt ((1 : Int32) <<< (nI k &&& 31)) i = decide (i = k) := by decide +kernel
  exact h k hk i hi
theorem bt_0 (i : Nat) : bt 0 i = false := by
  show (0#32).getLsbD i = false
  exact BitVec.getLsbD_zero
theorem bt_hi {v : Int32} (h : v.toBitVec.toNat < 256) {i : Nat} (hi : 8 ≤ i) : bt v i = false := by
  unfold bt
  rw [BitVec.getLsbD, Nat.testBit_lt_two_pow]
  exact Nat.lt_of_lt_of_le h (Nat.le_trans (by decide) (Nat.pow_le_pow_right (by decide) hi))
theorem and1_bt (x : Int32) : x &&& 1 = if bt x 0 = true then 1 else 0 := by
  apply bt_ext
  intro i hi
  rw [bt_and]
  have h1 : ∀ i, i < 32 → bt 1 i = decide (i = 0) := by decide
  rw [h1 i hi]
  by_cases e : bt x 0 = true
  · rw [if_pos e, h1 i hi]
    by_cases q : i = 0
    · subst q; rw [e]; rfl
    · rw [decide_eq_false q, Bool.and_false]
  · rw [if_neg e, bt_0]
    by_cases q : i = 0
    · subst q; rw [Bool.eq_false_iff.mpr e]; rfl
    · rw [decide_eq_false q, Bool.and_false]
theorem shr_bt {v : Int32} {k : Nat} (hk : k < 8) : bt (v >>> (nI k &&& 31)) 0 = bt v k := by
  have h : ∀ k, k < 8 → ((nI k &&& 31).toBitVec.smod 32).toNat = k := by decide
  unfold bt
  rw [Int32.toBitVec_shiftRight]
  show (v.toBitVec.sshiftRight ((nI k &&& 31).toBitVec.smod 32).toNat).getLsbD 0 = _
  rw [h k hk, BitVec.getLsbD_sshiftRight]
  simp
  omega
theorem mBit_bt {v : Int32} {k : Nat} (hk : k < 8) : mBit v k = bt v k := by
  show decide (¬ (v >>> (nI k &&& 31)) &&& 1 = 0) = _
  rw [and1_bt, shr_bt hk]
  by_cases e : bt v k = true
  · rw [if_pos e, e]; decide
  · rw [if_neg e, Bool.eq_false_iff.mpr e]; decide
theorem bit1_bt {v : Int32} {k : Nat} (hk : k < 8) : ((v >>> (nI k &&& 31)) &&& 1 = 1) = (bt v k = true) := by
  rw [and1_bt, shr_bt hk]
  by_cases e : bt v k = true
  · rw [if_pos e, e]; simp
  · rw [if_neg e]; simp [e]

/-! the whole school, as the class has it, and the reference's rows that hold it -/
abbrev MA : Type := Nat → Int32
abbrev MG : Type := Nat × MA × MA × MA × MA × MA × MA × MA × MA × MA × MA × MA × Nat × Int32
abbrev gN (G : MG) : Nat := G.1
abbrev gKd (G : MG) : MA := G.2.1
abbrev gKa (G : MG) : MA := G.2.2.1
abbrev gHo (G : MG) : MA := G.2.2.2.1
abbrev gFa (G : MG) : MA := G.2.2.2.2.1
abbrev gSi (G : MG) : MA := G.2.2.2.2.2.1
abbrev gKn (G : MG) : MA := G.2.2.2.2.2.2.1
abbrev gAw (G : MG) : MA := G.2.2.2.2.2.2.2.1
abbrev gEv (G : MG) : MA := G.2.2.2.2.2.2.2.2.1
abbrev gCr (G : MG) : MA := G.2.2.2.2.2.2.2.2.2.1
abbrev gTr (G : MG) : MA := G.2.2.2.2.2.2.2.2.2.2.1
abbrev gLw (G : MG) : MA := G.2.2.2.2.2.2.2.2.2.2.2.1
abbrev gTd (G : MG) : Nat := G.2.2.2.2.2.2.2.2.2.2.2.2.1
abbrev gZ (G : MG) : Int32 := G.2.2.2.2.2.2.2.2.2.2.2.2.2
abbrev gT3 (G : MG) : mT3 := (gSi G, gKn G, gAw G)
abbrev gDI (G : MG) : Nat → Int32 := fun i => mDI (gKd G) (gKa G) (gHo G) (gFa G) (gEv G) (gLw G) (gN G) (gT3 G) (gTd G) i
abbrev gGoT (G : MG) (i : Nat) : mT3 := mGo (gKd G) (gKa G) (gHo G) (gFa G) (gEv G) (gLw G) (gN G) (gT3 G) (gTd G) i
/-! conditions, as each side asks them -/
abbrev okN (c : Int32) (n : Nat) : Prop := ¬ c < 0 ∧ c < nI n
abbrev okNR (c : Int32) (n : Nat) : Prop := ¬ c < 0 ∧ ¬ nI n - 1 < c
theorem okN_iff {c : Int32} {n : Nat} (hn : n ≤ 40) : okNR c n ↔ okN c n := by
  have e1 : (nI n - 1).toInt = (n : Int) - 1 := by
    rw [show (1 : Int32) = nI 1 from rfl, pk_sub_toInt (by omega) (by omega)]; rfl
  unfold okNR okN
  simp only [Int32.lt_iff_toInt_lt, e1, nI_toInt (show n < 2 ^ 31 by omega), show (0 : Int32).toInt = 0 from by decide]
  omega
theorem okN_n {k n : Nat} (hk : k < n) (hn : n ≤ 40) : okN (nI k) n := ⟨nI_pos (by omega), nI_lt hk (by omega)⟩
abbrev okK (k a : Int32) : Prop := (¬ k < 0 ∧ k < 6) ∧ ¬ a < 0 ∧ a ≤ 9
abbrev okKR (k a : Int32) : Prop := (¬ k < 0 ∧ ¬ 5 < k) ∧ ¬ a < 0 ∧ ¬ 9 < a
theorem okK_iff {k a : Int32} : okKR k a ↔ okK k a := by
  unfold okKR okK
  simp only [Int32.lt_iff_toInt_lt, Int32.le_iff_toInt_le, show (0 : Int32).toInt = 0 from by decide, show (5 : Int32).toInt = 5 from by decide, show (6 : Int32).toInt = 6 from by decide, show (9 : Int32).toInt = 9 from by decide]
  omega
abbrev okD (d : Int32) : Prop := ¬ d < 0 ∧ d < 40
abbrev okDR (d : Int32) : Prop := ¬ d < 0 ∧ ¬ 39 < d
theorem okD_iff {d : Int32} : okDR d ↔ okD d := by
  unfold okDR okD
  simp only [Int32.lt_iff_toInt_lt, show (0 : Int32).toInt = 0 from by decide, show (39 : Int32).toInt = 39 from by decide, show (40 : Int32).toInt = 40 from by decide]
  omega
abbrev okH (d : Int32) : Prop := ¬ d < 0 ∧ d < 6
abbrev okHR (d : Int32) : Prop := ¬ d < 0 ∧ ¬ 5 < d
theorem okH_iff {d : Int32} : okHR d ↔ okH d := by
  unfold okHR okH
  simp only [Int32.lt_iff_toInt_lt, show (0 : Int32).toInt = 0 from by decide, show (5 : Int32).toInt = 5 from by decide, show (6 : Int32).toInt = 6 from by decide]
  omega
/-! steps -/
def gChild (k a h f : Int32) (G : MG) : MG := if okC k a h f ∧ gN G < 8 then (gN G + 1, upd (gKd G) (gN G) k, upd (gKa G) (gN G) a, upd (gHo G) (gN G) h, upd (gFa G) (gN G) f, upd (gSi G) (gN G) 0, upd (gKn G) (gN G) 0, upd (gAw G) (gN G) 0, gEv G, gCr G, gTr G, gLw G, gTd G, gZ G) else G
def aChildOf (c w : Int32) (G : MG) : Int32 := if okN c (gN G) then (if w = 0 then gKd G c.toNatClampNeg else if w = 1 then gKa G c.toNatClampNeg else if w = 2 then gHo G c.toNatClampNeg else if w = 3 then gFa G c.toNatClampNeg else if w = 4 then gSi G c.toNatClampNeg else if w = 5 then gKn G c.toNatClampNeg else if w = 6 then gAw G c.toNatClampNeg else -1) else -1
def gMind (c k a : Int32) (G : MG) : MG := if okN c (gN G) ∧ okK k a then (gN G, upd (gKd G) c.toNatClampNeg k, upd (gKa G) c.toNatClampNeg a, gHo G, gFa G, gSi G, gKn G, gAw G, gEv G, gCr G, gTr G, gLw G, gTd G, gZ G) else G
def aMind (c k a : Int32) (G : MG) : Int32 := if okN c (gN G) ∧ okK k a then gKd G c.toNatClampNeg else -1
abbrev ok20 (x : Int32) : Prop := ¬ x < 0 ∧ ¬ 20 < x
def gSick (c x : Int32) (G : MG) : MG := if okN c (gN G) ∧ ok20 x then (gN G, gKd G, gKa G, gHo G, gFa G, upd (gSi G) c.toNatClampNeg x, gKn G, gAw G, gEv G, gCr G, gTr G, gLw G, gTd G, gZ G) else G
def aSick (c x : Int32) (G : MG) : Int32 := if okN c (gN G) ∧ ok20 x then gSi G c.toNatClampNeg else -1
abbrev ok31 (x : Int32) : Prop := ¬ x < 0 ∧ ¬ 31 < x
def gEvent (d x : Int32) (G : MG) : MG := if okD d ∧ ok31 x then (gN G, gKd G, gKa G, gHo G, gFa G, gSi G, gKn G, gAw G, upd (gEv G) d.toNatClampNeg x, gCr G, gTr G, gLw G, gTd G, gZ G) else G
def aEvent (d x : Int32) (G : MG) : Int32 := if okD d ∧ ok31 x then gEv G d.toNatClampNeg else -1
def aDayOf (d w : Int32) (G : MG) : Int32 := if okD d then (if w = 0 then gEv G d.toNatClampNeg else if w = 1 then d - d / 5 * 5 else if w = 2 then gCr G d.toNatClampNeg else if w = 3 then gTr G d.toNatClampNeg else -1) else -1
abbrev okL (c v : Int32) : Prop := (¬ c < 0 ∧ c < 4) ∧ ¬ v < tb_lowest c.toNatClampNeg ∧ ¬ tb_highest c.toNatClampNeg < v
def gSet (c v : Int32) (G : MG) : MG := if okL c v then (gN G, gKd G, gKa G, gHo G, gFa G, gSi G, gKn G, gAw G, gEv G, gCr G, gTr G, upd (gLw G) c.toNatClampNeg v, gTd G, gZ G) else G
def aSet (c v : Int32) (G : MG) : Int32 := if okL c v then gLw G c.toNatClampNeg else -1
def aWould (c : Int32) (G : MG) : Int32 := if okN c (gN G) then (if 40 ≤ gTd G then -4 else if mAwayOf (gKd G) (gKa G) (gFa G) (gSi G) (gKn G) (gAw G) (gEv G) (gLw G) (gTd G) c.toNatClampNeg = true then 1 else 0) else -1
def gGo (i : Nat) (G : MG) : MG := (gN G, gKd G, gKa G, gHo G, gFa G, (gGoT G i).1, (gGoT G i).2.1, (gGoT G i).2.2, gEv G, mFd (gDI G) (gCr G) (gTd G) i, mFd (gDI G) (gTr G) (gTd G) i, gLw G, gTd G + i, gZ G)
def gDays (m : Int32) (G : MG) : MG := if m < 0 ∨ 40 < m then G else gGo (mDaysT (gTd G) m - gTd G) G
def gKnock (h : Int32) (G : MG) : MG := if okH h then (gN G, gKd G, gKa G, gHo G, gFa G, gSi G, mKn1 (gHo G) (gLw G) h (gKn G) (gN G), gAw G, gEv G, gCr G, gTr G, gLw G, gTd G, gZ G) else G
def aKnock (h : Int32) (G : MG) : Int32 := if okH h then nI (mCt (fun c => decide (gHo G c = h)) (gN G)) else -1
abbrev okW (d c : Int32) (G : MG) : Prop := (¬ d < 0 ∧ d < nI (gTd G)) ∧ okN c (gN G)
def mWr (v c : Int32) (is : Int32) : Int32 := if is = 0 then v &&& (((1 : Int32) <<< (c &&& 31)) ^^^ (-1)) else v ||| ((1 : Int32) <<< (c &&& 31))
def gWrite (d c is : Int32) (G : MG) : MG := if okW d c G then (gN G, gKd G, gKa G, gHo G, gFa G, gSi G, gKn G, gAw G, gEv G, upd (gCr G) d.toNatClampNeg (mWr (gCr G d.toNatClampNeg) c is), gTr G, gLw G, gTd G, gZ G) else G
def aWrite (d c is : Int32) (G : MG) : Int32 := if okW d c G then (if mWr (gCr G d.toNatClampNeg) c is = gCr G d.toNatClampNeg then 0 else 1) else -1
def gSeed (v : Int32) (G : MG) : MG := (gN G, gKd G, gKa G, gHo G, gFa G, gSi G, gKn G, gAw G, gEv G, gCr G, gTr G, gLw G, gTd G, v)
abbrev gTh (G : MG) : Int32 := mThere (gKd G) (gKa G) (gFa G) (gSi G) (gKn G) (gAw G) (gEv G) (gLw G) (gTd G) (gN G)
def gDraw (G : MG) : MG := if gTd G < 40 ∧ ¬ gTh G = 0 then gSeed (mZ (gZ G)) G else G
/-! what holds of a school -/
def Iv (G : MG) : Prop := (gN G ≤ 8 ∧ gTd G ≤ 40) ∧ (∀ c : Nat, c < gN G → ((∃ k : Nat, k < 6 ∧ gKd G c = nI k) ∧ ∃ k : Nat, k < 6 ∧ gHo G c = nI k) ∧ ¬ gSi G c < 0 ∧ ¬ gKn G c < 0) ∧ (¬ gLw G 0 < 0 ∧ ¬ gLw G 3 < 0) ∧ ∀ d : Nat, d < 40 → ((gCr G d).toBitVec.toNat < 256 ∧ (gTr G d).toBitVec.toNat < 256) ∧ (gTd G ≤ d → gCr G d = 0 ∧ gTr G d = 0)
/-- the reference's rows hold the school -/
def RG (G : MG) (n : Nat) (ch row ev cr tr lw : MA) (z : Int32) : Prop :=
  Iv G ∧ (n = gN G ∧ row 0 = nI (gTd G) ∧ z = gZ G) ∧ (Ag n (xC ch 0) (gKd G) ∧ Ag n (xC ch 1) (gKa G) ∧ Ag n (xC ch 2) (gHo G) ∧ Ag n (xC ch 3) (gFa G)) ∧ (Ag n (xR row (0 + 1)) (gSi G) ∧ Ag n (xR row (0 + 9)) (gKn G) ∧ Ag n (xR row (0 + 17)) (gAw G)) ∧ Ag 40 ev (gEv G) ∧ Ag 40 cr (gCr G) ∧ Ag 40 tr (gTr G) ∧ Ag 4 lw (gLw G)
theorem upd_at {f : Nat → Int32} {k j : Nat} (v : Int32) (h : j = k) : upd f k v j = v := by subst h; exact upd_is _ _ _
theorem ext3 {n : Nat} {f g : Nat → Int32} (h : Ag n f g) {k : Nat} (v : Int32) : Ag n (upd f k v) (upd g k v) := Ag_set h k v
section RGS
variable {G : MG} {n : Nat} {ch row ev cr tr lw : MA} {z : Int32}
theorem RG.n8 (H : RG G n ch row ev cr tr lw z) : n ≤ 8 := by rw [H.2.1.1]; exact H.1.1.1
theorem RG.td (H : RG G n ch row ev cr tr lw z) : row 0 = nI (gTd G) ∧ gTd G ≤ 40 := ⟨H.2.1.2.1, H.1.1.2⟩
/-- which day it is, by a name of the row's first cell -/
theorem RG.tdj (H : RG G n ch row ev cr tr lw z) {j : Nat} (h : row 0 = nI j) (hj : j ≤ 40) : j = gTd G :=
  (nI_eq (by omega) (by have := H.1.1.2; omega)).mp (h.symm.trans H.td.1)
theorem RG.nn (H : RG G n ch row ev cr tr lw z) : NNr row lw n 0 := by
  obtain ⟨⟨_, h1, h2, _⟩, ⟨hn, _, _⟩, _, ⟨s1, s2, _⟩, _, _, _, hl⟩ := H
  refine ⟨fun c hc => ?_, ?_, ?_⟩
  · have q := (h1 c (hn ▸ hc)).2
    have e1 : row (0 + 1 + c) = gSi G c := s1 c hc
    have e2 : row (0 + 9 + c) = gKn G c := s2 c hc
    rw [e1, e2]; exact q
  · rw [hl 3 (by decide)]; exact h2.2
  · rw [hl 0 (by decide)]; exact h2.1
/-! child -/
theorem RG.child_no (H : RG G n ch row ev cr tr lw z) {k a h f : Int32} (hc : ¬ okR k a h f) : RG (gChild k a h f G) n ch row ev cr tr lw z ∧ -1 = mChA k a h f (gN G) := by
  have e : ¬ okC k a h f := fun q => hc (ok_iff.mpr q)
  unfold gChild mChA
  rw [if_neg (fun q => e q.1), if_neg e]
  exact ⟨H, rfl⟩
theorem RG.child_full (H : RG G n ch row ev cr tr lw z) {k a h f : Int32} (hc : okR k a h f) (h8 : n = 8) : RG (gChild k a h f G) n ch row ev cr tr lw z ∧ -2 = mChA k a h f (gN G) := by
  have e : okC k a h f := ok_iff.mp hc
  have e2 : ¬ gN G < 8 := by rw [← H.2.1.1]; omega
  unfold gChild mChA
  rw [if_neg (fun q => e2 q.2), if_pos e, if_neg e2]
  exact ⟨H, rfl⟩
theorem Ag.upn {f g : MA} (h : Ag n f g) {F : MA} {v : Int32} (hF : ∀ c, c < n → F c = f c) (hn : F n = v) : Ag (n + 1) F (upd g n v) := fun c hc => by
  by_cases e : c = n
  · subst e; rw [upd_is]; exact hn
  · rw [upd_ne _ _ e, hF c (by omega)]; exact h c (by omega)
theorem i_lt {k : Nat} {b : Nat} (hb : b < 1000) {x : Int32} (h1 : ¬ x < 0) (h2 : ¬ nI b < x) : ∃ k : Nat, k < b + 1 ∧ x = nI k := by
  obtain ⟨k, hk, e⟩ := nat_le h1 h2 (by omega)
  exact ⟨k, by omega, e⟩
theorem RG.child_ok (H : RG G n ch row ev cr tr lw z) {k a h f : Int32} (hc : okR k a h f) (h8 : n < 8) : RG (gChild k a h f G) (n + 1) (upd (upd (upd (upd ch (4 * n) k) (4 * n + 1) a) (4 * n + 2) h) (4 * n + 3) f) (upd (upd (upd row (1 + n) 0) (9 + n) 0) (17 + n) 0) ev cr tr lw z ∧ nI (n + 1) - 1 = mChA k a h f (gN G) := by
  have e : okC k a h f := ok_iff.mp hc
  rw [nI_pred]
  obtain ⟨⟨⟨i1, i2⟩, i3, i4, i5⟩, ⟨hn, h0, hz⟩, ⟨c0, c1, c2, c3⟩, ⟨s0, s1, s2⟩, v1, v2, v3, v4⟩ := H
  have e2 : gN G < 8 := by rw [← hn]; omega
  unfold gChild mChA
  rw [if_pos ⟨e, e2⟩, if_pos e, if_pos e2]
  subst hn
  refine ⟨⟨⟨⟨e2, i2⟩, fun c hc2 => ?_, i4, i5⟩, ⟨rfl, ?_, hz⟩, ⟨?_, ?_, ?_, ?_⟩, ⟨?_, ?_, ?_⟩, v1, v2, v3, v4⟩, rfl⟩
  · show ((∃ j : Nat, j < 6 ∧ upd (gKd G) (gN G) k c = nI j) ∧ ∃ j : Nat, j < 6 ∧ upd (gHo G) (gN G) h c = nI j) ∧ ¬ upd (gSi G) (gN G) 0 c < 0 ∧ ¬ upd (gKn G) (gN G) 0 c < 0
    by_cases q : c = gN G
    · rw [upd_at _ q, upd_at _ q, upd_at _ q, upd_at _ q]
      exact ⟨⟨i_lt (b := 5) (k := 0) (by decide) hc.1.1.1 hc.1.1.2, i_lt (b := 5) (k := 0) (by decide) hc.2.1.1 hc.2.1.2⟩, by decide, by decide⟩
    · rw [upd_ne _ _ q, upd_ne _ _ q, upd_ne _ _ q, upd_ne _ _ q]
      have hc3 : c < gN G + 1 := hc2
      exact i3 c (by omega)
  · rw [upd_ne _ _ (by omega), upd_ne _ _ (by omega), upd_ne _ _ (by omega)]; exact h0
  · exact c0.upn (fun c hc => by unfold xC; rw [upd_ne _ _ (by omega), upd_ne _ _ (by omega), upd_ne _ _ (by omega), upd_ne _ _ (by omega)]) (by unfold xC; rw [upd_ne _ _ (by omega), upd_ne _ _ (by omega), upd_ne _ _ (by omega), upd_at _ (by omega)])
  · exact c1.upn (fun c hc => by unfold xC; rw [upd_ne _ _ (by omega), upd_ne _ _ (by omega), upd_ne _ _ (by omega), upd_ne _ _ (by omega)]) (by unfold xC; rw [upd_ne _ _ (by omega), upd_ne _ _ (by omega), upd_at _ (by omega)])
  · exact c2.upn (fun c hc => by unfold xC; rw [upd_ne _ _ (by omega), upd_ne _ _ (by omega), upd_ne _ _ (by omega), upd_ne _ _ (by omega)]) (by unfold xC; rw [upd_ne _ _ (by omega), upd_at _ (by omega)])
  · exact c3.upn (fun c hc => by unfold xC; rw [upd_ne _ _ (by omega), upd_ne _ _ (by omega), upd_ne _ _ (by omega), upd_ne _ _ (by omega)]) (by unfold xC; rw [upd_at _ (by omega)])
  · exact s0.upn (fun c hc => by unfold xR; rw [upd_ne _ _ (by omega), upd_ne _ _ (by omega), upd_ne _ _ (by omega)]) (by unfold xR; rw [upd_ne _ _ (by omega), upd_ne _ _ (by omega), upd_at _ (by omega)])
  · exact s1.upn (fun c hc => by unfold xR; rw [upd_ne _ _ (by omega), upd_ne _ _ (by omega), upd_ne _ _ (by omega)]) (by unfold xR; rw [upd_ne _ _ (by omega), upd_at _ (by omega)])
  · exact s2.upn (fun c hc => by unfold xR; rw [upd_ne _ _ (by omega), upd_ne _ _ (by omega), upd_ne _ _ (by omega)]) (by unfold xR; rw [upd_at _ (by omega)])
/-! childOf -/
theorem RG.childOf_no (H : RG G n ch row ev cr tr lw z) {c w : Int32} (h : ¬ okNR c n ∨ ¬ (¬ w < 0 ∧ ¬ 6 < w)) : -1 = aChildOf c w G := by
  have hn := H.n8
  unfold aChildOf
  by_cases e : okN c (gN G)
  · rw [if_pos e]
    have h2 : ¬ (¬ w < 0 ∧ ¬ 6 < w) := h.resolve_left (fun q => q (by rw [H.2.1.1] at *; exact (okN_iff (by omega)).mpr e))
    have k : ∀ j : Nat, j ≤ 6 → ¬ w = nI j := fun j hj q => h2 (by
      subst q; exact ⟨nI_pos (by omega), nI_nlt (a := 6) hj (by decide)⟩)
    rw [if_neg (show ¬ w = 0 from k 0 (by decide)), if_neg (show ¬ w = 1 from k 1 (by decide)), if_neg (show ¬ w = 2 from k 2 (by decide)), if_neg (show ¬ w = 3 from k 3 (by decide)), if_neg (show ¬ w = 4 from k 4 (by decide)), if_neg (show ¬ w = 5 from k 5 (by decide)), if_neg (show ¬ w = 6 from k 6 (by decide))]
  · rw [if_neg e]
theorem RG.childOf_c (H : RG G n ch row ev cr tr lw z) {c : Nat} (hc : c < n) : ∀ w : Nat, w < 4 → ch (4 * c + w) = aChildOf (nI c) (nI w) G := fun w hw => by
  have hn := H.n8
  unfold aChildOf
  rw [if_pos (by rw [← H.2.1.1]; exact okN_n hc (by omega)), nI_clamp (by omega)]
  obtain ⟨_, _, ⟨c0, c1, c2, c3⟩, _⟩ := H
  rcases (show w = 0 ∨ w = 1 ∨ w = 2 ∨ w = 3 from by omega) with rfl | rfl | rfl | rfl
  · rw [if_pos (by decide)]; exact c0 c hc
  · rw [if_neg (by decide), if_pos (by decide)]; exact c1 c hc
  · rw [if_neg (by decide), if_neg (by decide), if_pos (by decide)]; exact c2 c hc
  · rw [if_neg (by decide), if_neg (by decide), if_neg (by decide), if_pos (by decide)]; exact c3 c hc
theorem RG.childOf_r (H : RG G n ch row ev cr tr lw z) {c p : Nat} {w : Int32} (hc : c < n) (hp : (w = 4 ∧ p = 1) ∨ (w = 5 ∧ p = 9) ∨ (w = 6 ∧ p = 17)) : row (p + c) = aChildOf (nI c) w G := by
  have hn := H.n8
  unfold aChildOf
  rw [if_pos (by rw [← H.2.1.1]; exact okN_n hc (by omega)), nI_clamp (by omega)]
  obtain ⟨_, _, _, ⟨s0, s1, s2⟩, _⟩ := H
  rcases hp with ⟨rfl, rfl⟩ | ⟨rfl, rfl⟩ | ⟨rfl, rfl⟩
  · rw [if_neg (by decide), if_neg (by decide), if_neg (by decide), if_neg (by decide), if_pos rfl]; exact s0 c hc
  · rw [if_neg (by decide), if_neg (by decide), if_neg (by decide), if_neg (by decide), if_neg (by decide), if_pos rfl]; exact s1 c hc
  · rw [if_neg (by decide), if_neg (by decide), if_neg (by decide), if_neg (by decide), if_neg (by decide), if_neg (by decide), if_pos rfl]; exact s2 c hc
/-! mind, sick, event, set, seed -/
theorem RG.mind_no (H : RG G n ch row ev cr tr lw z) {c k a : Int32} (h : ¬ okNR c n ∨ ¬ okKR k a) : RG (gMind c k a G) n ch row ev cr tr lw z ∧ -1 = aMind c k a G := by
  have hn := H.n8
  have e : ¬ (okN c (gN G) ∧ okK k a) := fun q => h.elim (fun w => w (by rw [H.2.1.1] at *; exact (okN_iff (by omega)).mpr q.1)) (fun w => w (okK_iff.mpr q.2))
  unfold gMind aMind
  rw [if_neg e, if_neg e]
  exact ⟨H, rfl⟩
theorem RG.mind_ok (H : RG G n ch row ev cr tr lw z) {c : Nat} {k a : Int32} (hc : c < n) (h : okKR k a) : RG (gMind (nI c) k a G) n (upd (upd ch (4 * c) k) (4 * c + 1) a) row ev cr tr lw z ∧ ch (4 * c + 0) = aMind (nI c) k a G := by
  have hn := H.n8
  have e : okN (nI c) (gN G) ∧ okK k a := ⟨by rw [← H.2.1.1]; exact okN_n hc (by omega), okK_iff.mp h⟩
  unfold gMind aMind
  rw [if_pos e, if_pos e, nI_clamp (by omega)]
  obtain ⟨⟨i1, i3, i4, i5⟩, h0, ⟨c0, c1, c2, c3⟩, hs⟩ := H
  refine ⟨⟨⟨i1, fun j hj => ?_, i4, i5⟩, h0, ⟨?_, ?_, ?_, ?_⟩, hs⟩, c0 c hc⟩
  · show ((∃ i : Nat, i < 6 ∧ upd (gKd G) c k j = nI i) ∧ _) ∧ _
    by_cases q : j = c
    · rw [upd_at _ q]
      exact ⟨⟨i_lt (b := 5) (k := 0) (by decide) h.1.1 h.1.2, (i3 j hj).1.2⟩, (i3 j hj).2⟩
    · rw [upd_ne _ _ q]
      exact i3 j hj
  · intro j hj
    show upd (upd ch (4 * c) k) (4 * c + 1) a (4 * j + 0) = upd (gKd G) c k j
    by_cases q : j = c
    · rw [upd_ne _ _ (by omega), upd_at _ (by omega), upd_at _ q]
    · rw [upd_ne _ _ (by omega), upd_ne _ _ (by omega), upd_ne _ _ q]; exact c0 j hj
  · intro j hj
    show upd (upd ch (4 * c) k) (4 * c + 1) a (4 * j + 1) = upd (gKa G) c a j
    by_cases q : j = c
    · rw [upd_at _ (by omega), upd_at _ q]
    · rw [upd_ne _ _ (by omega), upd_ne _ _ (by omega), upd_ne _ _ q]; exact c1 j hj
  · intro j hj
    show upd (upd ch (4 * c) k) (4 * c + 1) a (4 * j + 2) = gHo G j
    rw [upd_ne _ _ (by omega), upd_ne _ _ (by omega)]; exact c2 j hj
  · intro j hj
    show upd (upd ch (4 * c) k) (4 * c + 1) a (4 * j + 3) = gFa G j
    rw [upd_ne _ _ (by omega), upd_ne _ _ (by omega)]; exact c3 j hj
theorem RG.sick_no (H : RG G n ch row ev cr tr lw z) {c x : Int32} (h : ¬ okNR c n ∨ ¬ ok20 x) : RG (gSick c x G) n ch row ev cr tr lw z ∧ -1 = aSick c x G := by
  have hn := H.n8
  have e : ¬ (okN c (gN G) ∧ ok20 x) := fun q => h.elim (fun w => w (by rw [H.2.1.1] at *; exact (okN_iff (by omega)).mpr q.1)) (fun w => w q.2)
  unfold gSick aSick
  rw [if_neg e, if_neg e]
  exact ⟨H, rfl⟩
theorem RG.sick_ok (H : RG G n ch row ev cr tr lw z) {c : Nat} {x : Int32} (hc : c < n) (h : ok20 x) : RG (gSick (nI c) x G) n ch (upd row (1 + c) x) ev cr tr lw z ∧ row (1 + c) = aSick (nI c) x G := by
  have hn := H.n8
  have e : okN (nI c) (gN G) ∧ ok20 x := ⟨by rw [← H.2.1.1]; exact okN_n hc (by omega), h⟩
  unfold gSick aSick
  rw [if_pos e, if_pos e, nI_clamp (by omega)]
  obtain ⟨⟨i1, i3, i4, i5⟩, ⟨h0, h1, h2⟩, hc4, ⟨s0, s1, s2⟩, hv⟩ := H
  refine ⟨⟨⟨i1, fun j hj => ?_, i4, i5⟩, ⟨h0, ?_, h2⟩, hc4, ⟨?_, ?_, ?_⟩, hv⟩, s0 c hc⟩
  · show _ ∧ ¬ upd (gSi G) c x j < 0 ∧ _
    by_cases q : j = c
    · rw [upd_at _ q]
      exact ⟨(i3 j hj).1, h.1, (i3 j hj).2.2⟩
    · rw [upd_ne _ _ q]
      exact i3 j hj
  · rw [upd_ne _ _ (by omega)]; exact h1
  · intro j hj
    show upd row (1 + c) x (0 + 1 + j) = upd (gSi G) c x j
    by_cases q : j = c
    · rw [upd_at _ (by omega), upd_at _ q]
    · rw [upd_ne _ _ (by omega), upd_ne _ _ q]; exact s0 j hj
  · intro j hj
    show upd row (1 + c) x (0 + 9 + j) = gKn G j
    rw [upd_ne _ _ (by omega)]; exact s1 j hj
  · intro j hj
    show upd row (1 + c) x (0 + 17 + j) = gAw G j
    rw [upd_ne _ _ (by omega)]; exact s2 j hj
theorem RG.event_no (H : RG G n ch row ev cr tr lw z) {d x : Int32} (h : ¬ okDR d ∨ ¬ ok31 x) : RG (gEvent d x G) n ch row ev cr tr lw z ∧ -1 = aEvent d x G := by
  have e : ¬ (okD d ∧ ok31 x) := fun q => h.elim (fun w => w (okD_iff.mpr q.1)) (fun w => w q.2)
  unfold gEvent aEvent
  rw [if_neg e, if_neg e]
  exact ⟨H, rfl⟩
theorem RG.event_ok (H : RG G n ch row ev cr tr lw z) {d : Nat} {x : Int32} (hd : d < 40) (h : ok31 x) : RG (gEvent (nI d) x G) n ch row (upd ev d x) cr tr lw z ∧ ev d = aEvent (nI d) x G := by
  have e : okD (nI d) ∧ ok31 x := ⟨⟨nI_pos (by omega), nI_lt (b := 40) hd (by decide)⟩, h⟩
  unfold gEvent aEvent
  rw [if_pos e, if_pos e, nI_clamp (by omega)]
  obtain ⟨i, h0, hc4, hs, hv, hr⟩ := H
  exact ⟨⟨i, h0, hc4, hs, Ag_set hv d x, hr⟩, hv d hd⟩
theorem RG.seed (H : RG G n ch row ev cr tr lw z) (v : Int32) : RG (gSeed v G) n ch row ev cr tr lw v ∧ z = gZ G := by
  obtain ⟨i, ⟨h0, h1, h2⟩, hc4, hs, hr⟩ := H
  exact ⟨⟨i, ⟨h0, h1, rfl⟩, hc4, hs, hr⟩, h2⟩
theorem RG.dayOf_no (_H : RG G n ch row ev cr tr lw z) {d w : Int32} (h : ¬ okDR d ∨ (¬ w = 0 ∧ ¬ w = 1 ∧ ¬ w = 2 ∧ ¬ w = 3)) : -1 = aDayOf d w G := by
  unfold aDayOf
  by_cases e : okD d
  · rw [if_pos e]
    obtain ⟨k0, k1, k2, k3⟩ := h.resolve_left (fun q => q (okD_iff.mpr e))
    rw [if_neg k0, if_neg k1, if_neg k2, if_neg k3]
  · rw [if_neg e]
theorem RG.dayOf_ok (H : RG G n ch row ev cr tr lw z) {d : Nat} {w r : Int32} (hd : d < 40) (h : (w = 0 ∧ r = ev d) ∨ (¬ w = 0 ∧ w = 1 ∧ r = nI d - nI d / 5 * 5) ∨ (¬ w = 0 ∧ ¬ w = 1 ∧ w = 2 ∧ r = cr d) ∨ (¬ w = 0 ∧ ¬ w = 1 ∧ ¬ w = 2 ∧ w = 3 ∧ r = tr d) ∨ (¬ w = 0 ∧ ¬ w = 1 ∧ ¬ w = 2 ∧ ¬ w = 3 ∧ r = -1)) : r = aDayOf (nI d) w G := by
  obtain ⟨_, _, _, _, hv, hc, ht, _⟩ := H
  unfold aDayOf
  rw [if_pos ⟨nI_pos (by omega), nI_lt (b := 40) hd (by decide)⟩, nI_clamp (by omega)]
  rcases h with ⟨a, e⟩ | ⟨a, b, e⟩ | ⟨a, b, c, e⟩ | ⟨a, b, c, f, e⟩ | ⟨a, b, c, f, e⟩
  · rw [if_pos a, e]; exact hv d hd
  · rw [if_neg a, if_pos b, e]
  · rw [if_neg a, if_neg b, if_pos c, e]; exact hc d hd
  · rw [if_neg a, if_neg b, if_neg c, if_pos f, e]; exact ht d hd
  · rw [if_neg a, if_neg b, if_neg c, if_neg f, e]
/-! would -/
theorem RG.would_no (H : RG G n ch row ev cr tr lw z) {c : Int32} (h : ¬ okNR c n) : -1 = aWould c G := by
  have hn := H.n8
  unfold aWould
  rw [if_neg (fun q => h (by rw [H.2.1.1] at *; exact (okN_iff (by omega)).mpr q))]
theorem RG.would_st (H : RG G n ch row ev cr tr lw z) {c : Nat} (hc : c < n) (h : row 0 = nI 40) : -4 = aWould (nI c) G := by
  have hn := H.n8
  unfold aWould
  rw [if_pos (by rw [← H.2.1.1]; exact okN_n hc (by omega)), if_pos (by have := H.tdj h (by decide); omega)]
theorem RG.would_ok (H : RG G n ch row ev cr tr lw z) {c d : Nat} (hc : c < n) (hd : row 0 = nI d) (h : d < 40) : (if mAway (ch (4 * c + 0)) (ch (4 * c + 1)) (ch (4 * c + 3)) (nI d) (ev d) (decide (0 < row (0 + 1 + c))) (decide (0 < row (0 + 9 + c))) (row (0 + 17 + c)) (lw 1) = true then (1 : Int32) else 0) = aWould (nI c) G := by
  have hn := H.n8
  have ed := H.tdj hd (by omega)
  unfold aWould
  rw [if_pos (show okN (nI c) (gN G) from by rw [← H.2.1.1]; exact okN_n hc (by omega)), if_neg (show ¬ 40 ≤ gTd G by omega), nI_clamp (by omega)]
  obtain ⟨_, _, ⟨c0, c1, c2, c3⟩, ⟨s0, s1, s2⟩, hv, _, _, hl⟩ := H
  have e := mAwayOf_cg (td := gTd G) c0 c1 c3 s0 s1 s2 hv hl hc
  rw [← e]
  unfold mAwayOf
  rw [decide_eq_true (show gTd G < 40 by omega), Bool.true_and, ← ed]; rfl
/-! days -/
theorem RG.go (H : RG G n ch row ev cr tr lw z) {X C T : MA} {i : Nat} (h : GoR ch row X ev lw n 0 (gTd G) i) (hi : gTd G + i ≤ 40) (hC : C = mFd (fDI ch row ev lw n 0 (gTd G)) cr (gTd G) i) (hT : T = mFd (fDI ch row ev lw n 0 (gTd G)) tr (gTd G) i) : RG (gGo i G) n ch X ev C T lw z := by
  have hn8 := H.n8
  obtain ⟨⟨⟨i1, i2⟩, i3, i4, i5⟩, ⟨hn, h0, h2⟩, ⟨c0, c1, c2, c3⟩, ⟨s0, s1, s2⟩, v1, v2, v3, v4⟩ := H
  obtain ⟨⟨a1, a2, a3⟩, b, ⟨n1, n2⟩, _⟩ := h
  subst hn
  have cg : ∀ j : Nat, Ag3 (gN G) (mGo (xC ch 0) (xC ch 1) (xC ch 2) (xC ch 3) ev lw (gN G) (s3R row 0) (gTd G) j) (gGoT G j) := fun j => by
    have := mGo_cg (td := gTd G) c0 c1 c2 c3 v1 v4 (s := s3R row 0) (s2 := gT3 G) ⟨s0, s1, s2⟩ j
    exact this
  have dg : ∀ j : Nat, fDI ch row ev lw (gN G) 0 (gTd G) j = gDI G j := fun j => by
    have := mDI_cg (td := gTd G) c0 c1 c2 c3 v1 v4 (s := s3R row 0) (s2 := gT3 G) ⟨s0, s1, s2⟩ j
    exact this
  have fg : ∀ (A B : MA), Ag 40 A B → Ag 40 (mFd (fDI ch row ev lw (gN G) 0 (gTd G)) A (gTd G) i) (mFd (gDI G) B (gTd G) i) := fun A B hAB d hd => by
    unfold mFd
    by_cases q : gTd G ≤ d ∧ d < gTd G + i
    · rw [if_pos q, if_pos q]; exact dg _
    · rw [if_neg q, if_neg q]; exact hAB d hd
  have e1 : Ag (gN G) (xR X (0 + 1)) (gGoT G i).1 := a1.trans (cg i).1
  have e2 : Ag (gN G) (xR X (0 + 9)) (gGoT G i).2.1 := a2.trans (cg i).2.1
  have e3 : Ag (gN G) (xR X (0 + 17)) (gGoT G i).2.2 := a3.trans (cg i).2.2
  refine ⟨⟨⟨i1, hi⟩, fun c hc => ⟨(i3 c hc).1, ?_, ?_⟩, i4, fun d hd => ?_⟩, ⟨rfl, b, h2⟩, ⟨c0, c1, c2, c3⟩, ⟨e1, e2, e3⟩, v1, hC ▸ fg cr _ v2, hT ▸ fg tr _ v3, v4⟩
  · have q := (n1 c hc).1
    have w : X (0 + 1 + c) = (gGoT G i).1 c := e1 c hc
    rw [w] at q; exact q
  · have q := (n1 c hc).2
    have w : X (0 + 9 + c) = (gGoT G i).2.1 c := e2 c hc
    rw [w] at q; exact q
  · have lt : ∀ j : Nat, (gDI G j).toBitVec.toNat < 256 := fun j => by
      show (mDI _ _ _ _ _ _ _ _ _ _).toBitVec.toNat < 256
      unfold mDI mThere
      exact mBits_lt _ _ i1
    show ((mFd (gDI G) (gCr G) (gTd G) i d).toBitVec.toNat < 256 ∧ (mFd (gDI G) (gTr G) (gTd G) i d).toBitVec.toNat < 256) ∧ (gTd G + i ≤ d → mFd (gDI G) (gCr G) (gTd G) i d = 0 ∧ mFd (gDI G) (gTr G) (gTd G) i d = 0)
    unfold mFd
    by_cases q : gTd G ≤ d ∧ d < gTd G + i
    · rw [if_pos q, if_pos q]; exact ⟨⟨lt _, lt _⟩, fun w => absurd w (by omega)⟩
    · rw [if_neg q, if_neg q]; exact ⟨(i5 d hd).1, fun w => (i5 d hd).2 (by omega)⟩
theorem RG.daysN (H : RG G n ch row ev cr tr lw z) {m : Int32} (h : ¬ (¬ m < 0 ∧ ¬ 40 < m)) : RG (gDays m G) n ch row ev cr tr lw z ∧ -1 = mDaysR (gTd G) m := by
  have e : m < 0 ∨ 40 < m := by
    by_cases q : m < 0
    · exact Or.inl q
    · exact Or.inr (Classical.not_not.mp (fun w => h ⟨q, w⟩))
  unfold gDays
  rw [if_pos e]
  exact ⟨H, (days_no (td := gTd G) e).2⟩
theorem RG.daysY (H : RG G n ch row ev cr tr lw z) {X C T : MA} {m j k : Nat} (hm : m ≤ 40) (h : GoR ch row X ev lw n 0 (gTd G) k ∧ gTd G + k ≤ 40) (hC : C = mFd (fDI ch row ev lw n 0 (gTd G)) cr (gTd G) k) (hT : T = mFd (fDI ch row ev lw n 0 (gTd G)) tr (gTd G) k) (hk : k ≤ m) (hx : m ≤ k ∨ X 0 = nI 40) (hj : X 0 = nI j) (hj40 : j ≤ 40) : RG (gDays (nI m) G) n ch X ev C T lw z ∧ nI j = mDaysR (gTd G) (nI m) := by
  obtain ⟨hg, hk40⟩ := h
  have ej : j = gTd G + k := (nI_eq (by omega) (by omega)).mp (hj.symm.trans hg.2.1)
  have e3 : m ≤ k ∨ 40 ≤ gTd G + k := hx.elim Or.inl (fun q => Or.inr (by
    have := (nI_eq (a := gTd G + k) (b := 40) (by omega) (by omega)).mp (hg.2.1.symm.trans q)
    omega))
  obtain ⟨q1, q2⟩ := days_end (td := gTd G) (tx := gTd G + k) hk hm e3 rfl hk40
  have ek : mDaysT (gTd G) (nI m) - gTd G = k := by rw [← q1]; omega
  unfold gDays
  rw [if_neg (days_ok hm), ek]
  exact ⟨H.go hg hk40 hC hT, by rw [ej]; exact q2⟩
/-! knock -/
theorem kB_one : ∀ h : Nat, h < 6 → ∀ k : Nat, k < 6 → decide ((((1 : Int32) <<< (nI h &&& 31)) >>> (nI k &&& 31)) &&& 1 = 1) = decide (nI k = nI h) := by decide +kernel
theorem RG.knock_no (H : RG G n ch row ev cr tr lw z) {h : Int32} (hh : ¬ okHR h) : RG (gKnock h G) n ch row ev cr tr lw z ∧ -1 = aKnock h G := by
  have e : ¬ okH h := fun q => hh (okH_iff.mpr q)
  unfold gKnock aKnock
  rw [if_neg e, if_neg e]
  exact ⟨H, rfl⟩
theorem RG.knock_ok (H : RG G n ch row ev cr tr lw z) {h : Nat} {X : MA} {r : Int32} (hh : h < 6) (hK : KnB ch lw ((1 : Int32) <<< (nI h &&& 31)) row X 0 n ∧ r = nI (mCt (kB ((1 : Int32) <<< (nI h &&& 31)) ch) n)) : RG (gKnock (nI h) G) n ch X ev cr tr lw z ∧ r = aKnock (nI h) G := by
  have hn8 := H.n8
  have e : okH (nI h) := ⟨nI_pos (by omega), nI_lt (b := 6) hh (by decide)⟩
  obtain ⟨⟨i1, i3, i4, i5⟩, ⟨hn, h0, h2⟩, ⟨c0, c1, c2, c3⟩, ⟨s0, s1, s2⟩, v1, v2, v3, v4⟩ := H
  have eb : ∀ c, c < n → kB ((1 : Int32) <<< (nI h &&& 31)) ch c = decide (gHo G c = nI h) := fun c hc => by
    obtain ⟨k, hk, ek⟩ := (i3 c (hn ▸ hc)).1.2
    have ec : ch (4 * c + 2) = gHo G c := c2 c hc
    unfold kB
    rw [ec, ek]; exact kB_one h hh k hk
  obtain ⟨⟨k1, k2⟩, kr⟩ := hK
  unfold gKnock aKnock
  rw [if_pos e, if_pos e]
  have e9 : Ag n (xR X (0 + 9)) (mKn1 (gHo G) (gLw G) (nI h) (gKn G) (gN G)) := fun c hc => by
    show X (0 + 9 + c) = mSpr _ _ _ _ c
    rw [k1 c (by omega)]
    unfold mSpr
    rw [eb c hc, v4 0 (by decide), show row (0 + 9 + c) = gKn G c from s1 c hc, hn]
  refine ⟨⟨⟨i1, fun c hc => ⟨(i3 c hc).1, (i3 c hc).2.1, ?_⟩, i4, i5⟩, ⟨hn, (k2 0 (by omega)).trans h0, h2⟩, ⟨c0, c1, c2, c3⟩, ⟨fun c hc => (k2 _ (by omega)).trans (s0 c hc), e9, fun c hc => (k2 _ (by omega)).trans (s2 c hc)⟩, v1, v2, v3, v4⟩, ?_⟩
  · show ¬ mSpr _ _ _ _ c < 0
    unfold mSpr
    split
    · exact i4.1
    · exact (i3 c hc).2.2
  · rw [kr, mCt_cg n eb, hn]
end RGS

/-! the sheets' items -/
def mIs (r s : Int32) (j : Nat) (o : Nat → Int64) : Nat → Int64 := if r = 1 ∧ s = nI j then (fun _ => 0) else o
theorem mIs_no {r s : Int32} {j : Nat} {o : Nat → Int64} (h : ¬ r = 1) : o = mIs r s j o := by unfold mIs; rw [if_neg (fun q => h q.1)]
theorem mIs_ne {r s : Int32} {j : Nat} {o : Nat → Int64} (h : ¬ s = nI j) : o = mIs r s j o := by unfold mIs; rw [if_neg (fun q => h q.2)]
theorem mIs_is {j : Nat} {o : Nat → Int64} : (fun _ => 0) = mIs 1 (nI j) j o := by unfold mIs; rw [if_pos ⟨rfl, rfl⟩]
def mNar (so v : Int32) : Int64 := (if so = 0 then v.toInt8.toInt32 else if so = 1 then v.toInt16.toInt32 else v).toInt64
def mPj (r s i v so : Int32) (j : Nat) (o : Nat → Int64) : Nat → Int64 := if r = 1 ∧ s = nI j then vp_updL o i.toNatClampNeg (mNar so v) else o
theorem mPj_no {r s i v so : Int32} {j : Nat} {o : Nat → Int64} (h : ¬ r = 1) : o = mPj r s i v so j o := by unfold mPj; rw [if_neg (fun q => h q.1)]
theorem mPj_ne {r s i v so : Int32} {j : Nat} {o : Nat → Int64} (h : ¬ s = nI j) : o = mPj r s i v so j o := by unfold mPj; rw [if_neg (fun q => h q.2)]
theorem mPj_is {v so : Int32} {j k : Nat} {o : Nat → Int64} (hk : k < 2 ^ 31) : vp_updL o k (mNar so v) = mPj 1 (nI j) (nI k) v so j o := by unfold mPj; rw [if_pos ⟨rfl, rfl⟩, nI_clamp hk]
def v4L (a b c d : Nat → Int64) (j : Nat) : Nat → Int64 := if j = 0 then a else if j = 1 then b else if j = 2 then c else d
/-- the reference's items hold the sheets' -/
def ItR (it : Nat → Nat → Int64) (A : Nat → Int64) : Prop := ∀ j i : Nat, j < 4 → i < 40 → A (40 * j + i) = it j i
def ShZ (k m : Nat) (A X : Nat → Int64) : Prop := ∀ j i : Nat, j < 4 → i < 40 → X (40 * j + i) = if j = k ∧ i < m then 0 else A (40 * j + i)
theorem ShZ_0 {k : Nat} {A : Nat → Int64} : ShZ k 0 A A := fun j i _ _ => (if_neg (fun q => Nat.not_lt_zero i q.2)).symm
theorem ShZ_s {k m : Nat} {A X : Nat → Int64} (h : ShZ k m A X) (hm : m < 40) : ShZ k (m + 1) A (vp_updL X (40 * k + m) 0) := fun j i hj hi => by
  by_cases e : j = k ∧ i = m
  · rw [if_pos ⟨e.1, by omega⟩, show 40 * j + i = 40 * k + m from by omega, pk_uLs]
  · rw [pk_uLn (by omega), h j i hj hi]
    by_cases q : j = k ∧ i < m
    · rw [if_pos q, if_pos ⟨q.1, by omega⟩]
    · rw [if_neg q, if_neg (fun w => by omega)]
theorem ShZ_f {k m : Nat} {A X : Nat → Int64} (hm : 40 ≤ m) (hk : k < 4) (h : ShZ k m A X) : ∀ j i : Nat, j < 4 → i < 40 → X (40 * j + i) = mIs 1 (nI k) j (fun i => A (40 * j + i)) i := fun j i hj hi => by
  rw [h j i hj hi]
  unfold mIs
  by_cases e : j = k
  · subst e; rw [if_pos ⟨rfl, by omega⟩, if_pos ⟨rfl, rfl⟩]
  · rw [if_neg (fun q => e q.1), if_neg (fun q => e ((nI_eq (by omega) (by omega)).mp q.2).symm)]
theorem ShP_f {k c : Nat} {A : Nat → Int64} {so : Nat → Int32} {v : Int32} {x : Int64} (hk : k < 4) (hc : c < 40) (hx : x = mNar (so k) v) : ∀ j i : Nat, j < 4 → i < 40 → vp_updL A (40 * k + c) x (40 * j + i) = mPj 1 (nI k) (nI c) v (so j) j (fun i => A (40 * j + i)) i := fun j i hj hi => by
  unfold mPj
  rw [nI_clamp (by omega)]
  by_cases e : j = k
  · subst e
    rw [if_pos ⟨rfl, rfl⟩]
    by_cases q : i = c
    · subst q; rw [pk_uLs, pk_uLs, hx]
    · rw [pk_uLn (by omega), pk_uLn q]
  · rw [if_neg (fun q => e ((nI_eq (by omega) (by omega)).mp q.2).symm), pk_uLn (by omega)]
theorem ItR.sheet {it : Nat → Nat → Int64} {A X : Nat → Int64} {r s : Int32} (h : ItR it A) (h2 : ∀ j i : Nat, j < 4 → i < 40 → X (40 * j + i) = mIs r s j (fun i => A (40 * j + i)) i) : ItR (fun j => mIs r s j (it j)) X := fun j i hj hi => by
  rw [h2 j i hj hi]
  show mIs r s j _ i = mIs r s j (it j) i
  unfold mIs
  split
  · rfl
  · exact h j i hj hi
theorem ItR.put {it : Nat → Nat → Int64} {A X : Nat → Int64} {so so2 : Nat → Int32} {r s c v : Int32} (h : ItR it A) (hs : ∀ j, j < 4 → so j = so2 j) (h2 : ∀ j i : Nat, j < 4 → i < 40 → X (40 * j + i) = mPj r s c v (so j) j (fun i => A (40 * j + i)) i) : ItR (fun j => mPj r s c v (so2 j) j (it j)) X := fun j i hj hi => by
  rw [h2 j i hj hi, hs j hj]
  show mPj r s c v (so2 j) j _ i = mPj r s c v (so2 j) j (it j) i
  unfold mPj
  split
  · by_cases q : i = c.toNatClampNeg
    · subst q; rw [pk_uLs, pk_uLs]
    · rw [pk_uLn q, pk_uLn q]; exact h j i hj hi
  · exact h j i hj hi
/-- items become EVENTS; r: the call's answer -/
def gEvs (r s i d m : Int32) (it : Nat → Nat → Int64) (G : MG) : MG := if r < 0 then G else (gN G, gKd G, gKa G, gHo G, gFa G, gSi G, gKn G, gAw G, mFd (fun j => (it s.toNatClampNeg (i.toNatClampNeg + j)).toInt32 &&& 31) (gEv G) d.toNatClampNeg m.toNatClampNeg, gCr G, gTr G, gLw G, gTd G, gZ G)
theorem l31 (x : Int64) : (x &&& 31).toInt32 = x.toInt32 &&& 31 := by
  apply Int32.toBitVec_inj.mp
  rw [Int32.toBitVec_and]
  show BitVec.signExtend 32 ((x &&& 31).toBitVec) = BitVec.signExtend 32 x.toBitVec &&& _
  rw [Int64.toBitVec_and]
  apply BitVec.eq_of_getLsbD_eq
  intro i hi
  rw [BitVec.getLsbD_and, BitVec.getLsbD_signExtend, BitVec.getLsbD_signExtend, BitVec.getLsbD_and]
  have h1 : ∀ i, i < 32 → (31 : Int64).toBitVec.getLsbD i = (31 : Int32).toBitVec.getLsbD i := by decide
  rw [if_pos (by omega), if_pos (by omega), h1 i hi, Bool.and_assoc]
theorem gEvs_no {r s i d m : Int32} {it : Nat → Nat → Int64} {G : MG} (h : r < 0) : G = gEvs r s i d m it G := by unfold gEvs; rw [if_pos h]
theorem gEvs_ok {k i d m : Nat} {it : Nat → Nat → Int64} {G : MG} {E : MA} (hk : k < 4) (hi : i ≤ 40) (hd : d ≤ 40) (hm : m ≤ 40) (h : E = mFd (fun j => (it k (i + j)).toInt32 &&& 31) (gEv G) d m) : (gN G, gKd G, gKa G, gHo G, gFa G, gSi G, gKn G, gAw G, E, gCr G, gTr G, gLw G, gTd G, gZ G) = gEvs (nI m) (nI k) (nI i) (nI d) (nI m) it G := by
  unfold gEvs
  rw [if_neg (nI_pos (by omega)), nI_clamp (by omega), nI_clamp (by omega), nI_clamp (by omega), nI_clamp (by omega), h]
theorem RG.evs_ok {G : MG} {n : Nat} {ch row ev cr tr lw E : MA} {z : Int32} {k i d m : Nat} {it : Nat → Nat → Int64} {A : Nat → Int64} (H : RG G n ch row ev cr tr lw z) (hI : ItR it A) (hk : k < 4) (hi : i + m ≤ 40) (hd : d + m ≤ 40) (h : E = mFd (fun j => (A (40 * k + i + j) &&& 31).toInt32) ev d m) : RG (gEvs (nI m) (nI k) (nI i) (nI d) (nI m) it G) n ch row E cr tr lw z := by
  obtain ⟨i0, h0, hc4, hs, hv, hr⟩ := H
  rw [← gEvs_ok (G := G) (E := mFd (fun j => (it k (i + j)).toInt32 &&& 31) (gEv G) d m) hk (by omega) (by omega) (by omega) rfl]
  refine ⟨i0, h0, hc4, hs, fun x hx => ?_, hr⟩
  show E x = mFd (fun j => (it k (i + j)).toInt32 &&& 31) (gEv G) d m x
  rw [h]
  unfold mFd
  by_cases q : d ≤ x ∧ x < d + m
  · rw [if_pos q, if_pos q]
    show (A (40 * k + i + (x - d)) &&& 31).toInt32 = (it k (i + (x - d))).toInt32 &&& 31
    rw [show 40 * k + i + (x - d) = 40 * k + (i + (x - d)) from by omega, hI k (i + (x - d)) hk (by omega)]
    exact l31 _
  · rw [if_neg q, if_neg q]; exact hv x hx
/-! laws -/
theorem RG.set_no {G : MG} {n : Nat} {ch row ev cr tr lw : MA} {z c v : Int32} (H : RG G n ch row ev cr tr lw z) (h : ¬ (¬ c < 0 ∧ ¬ 3 < c)) : RG (gSet c v G) n ch row ev cr tr lw z ∧ -1 = aSet c v G := by
  have e : ¬ okL c v := fun q => h ⟨q.1.1, fun w => by
    have := q.1.2
    rw [Int32.lt_iff_toInt_lt] at this w
    rw [show (4 : Int32).toInt = 4 from by decide] at this
    rw [show (3 : Int32).toInt = 3 from by decide] at w; omega⟩
  unfold gSet aSet
  rw [if_neg e, if_neg e]
  exact ⟨H, rfl⟩
def LwT (lo hi : MA) : Prop := ∀ k : Nat, k < 4 → lo k = tb_lowest k ∧ hi k = tb_highest k
theorem RG.set_nv {G : MG} {n k : Nat} {ch row ev cr tr lw lo hi : MA} {z v : Int32} (H : RG G n ch row ev cr tr lw z) (hL : LwT lo hi) (hk : k ≤ 3) (h : ¬ (¬ v < lo k ∧ ¬ hi k < v)) : RG (gSet (nI k) v G) n ch row ev cr tr lw z ∧ -1 = aSet (nI k) v G := by
  have e : ¬ okL (nI k) v := fun q => h (by
    have w := q.2
    rw [nI_clamp (by omega)] at w
    rw [(hL k (by omega)).1, (hL k (by omega)).2]; exact w)
  unfold gSet aSet
  rw [if_neg e, if_neg e]
  exact ⟨H, rfl⟩
theorem RG.set_ok {G : MG} {n k : Nat} {ch row ev cr tr lw lo hi : MA} {z v : Int32} (H : RG G n ch row ev cr tr lw z) (hL : LwT lo hi) (hk : k ≤ 3) (h : ¬ v < lo k ∧ ¬ hi k < v) : RG (gSet (nI k) v G) n ch row ev cr tr (upd lw k v) z ∧ lw k = aSet (nI k) v G := by
  have e : okL (nI k) v := by
    refine ⟨⟨nI_pos (by omega), nI_lt (b := 4) (by omega) (by decide)⟩, ?_⟩
    rw [nI_clamp (by omega), ← (hL k (by omega)).1, ← (hL k (by omega)).2]; exact h
  have hv : ¬ v < 0 := fun q => h.1 (by
    rw [(hL k (by omega)).1]
    have h1 : ∀ k, k < 4 → (1 : Int) ≤ (tb_lowest k).toInt := by decide
    have h2 := h1 k (by omega)
    rw [Int32.lt_iff_toInt_lt] at q ⊢
    rw [show (0 : Int32).toInt = 0 from by decide] at q; omega)
  unfold gSet aSet
  rw [if_pos e, if_pos e, nI_clamp (by omega)]
  obtain ⟨⟨i1, i3, i4, i5⟩, h0, hc4, hs, v1, v2, v3, v4⟩ := H
  refine ⟨⟨⟨i1, i3, ⟨?_, ?_⟩, i5⟩, h0, hc4, hs, v1, v2, v3, Ag_set v4 k v⟩, v4 k (by omega)⟩
  · show ¬ upd (gLw G) k v 0 < 0
    by_cases q : 0 = k
    · rw [upd_at _ q]; exact hv
    · rw [upd_ne _ _ q]; exact i4.1
  · show ¬ upd (gLw G) k v 3 < 0
    by_cases q : 3 = k
    · rw [upd_at _ q]; exact hv
    · rw [upd_ne _ _ q]; exact i4.2
/-! draw -/
theorem RG.th {G : MG} {n d : Nat} {ch row ev cr tr lw : MA} {z : Int32} (H : RG G n ch row ev cr tr lw z) (hd : row 0 = nI d) (h : d ≤ 40) : mBits (fTh ch row ev lw 0 d) n = gTh G := by
  have ed := H.tdj hd h
  subst ed
  obtain ⟨_, ⟨hn, _, _⟩, ⟨c0, c1, c2, c3⟩, ⟨s0, s1, s2⟩, hv, _, _, hl⟩ := H
  have e := mThere_cg (td := gTd G) c0 c1 c3 s0 s1 s2 hv hl
  show mThere _ _ _ _ _ _ _ _ _ n = mThere _ _ _ _ _ _ _ _ _ (gN G)
  rw [← hn]; exact e
theorem RG.draw_st {G : MG} {n : Nat} {ch row ev cr tr lw : MA} {z : Int32} (H : RG G n ch row ev cr tr lw z) (h : row 0 = nI 40) : RG (gDraw G) n ch row ev cr tr lw z := by
  have e := H.tdj h (by decide)
  unfold gDraw
  rw [if_neg (fun q => by have := q.1; omega)]
  exact H
theorem RG.draw_no {G : MG} {n d k : Nat} {ch row ev cr tr lw : MA} {z v : Int32} (H : RG G n ch row ev cr tr lw z) (hd : row 0 = nI d) (h : d ≤ 40) (hT : v = mBits (fTh ch row ev lw 0 d) k) (hk : k = n) (hv : v = 0) : RG (gDraw G) n ch row ev cr tr lw z := by
  subst hk
  have e := H.th hd h
  unfold gDraw
  rw [if_neg (fun q => q.2 (by rw [← e, ← hT]; exact hv))]
  exact H
theorem RG.draw_ok {G : MG} {n d k : Nat} {ch row ev cr tr lw : MA} {z v : Int32} (H : RG G n ch row ev cr tr lw z) (hd : row 0 = nI d) (h : d < 40) (hT : v = mBits (fTh ch row ev lw 0 d) k) (hk : k = n) (hv : ¬ v = 0) : RG (gDraw G) n ch row ev cr tr lw (z * 1103515245 + 12345) := by
  subst hk
  have e := H.th hd (by omega)
  have ed := H.tdj hd (by omega)
  have ez := H.2.1.2.2
  unfold gDraw
  rw [if_pos ⟨by omega, fun q => hv (by rw [hT, e]; exact q)⟩]
  have := (H.seed (mZ (gZ G))).1
  rw [ez]; exact this
/-! write -/
theorem wr_same {v i : Int32} {c : Nat} (hc : c < 8) (h : (bt v c = true ∧ ¬ i = 0) ∨ (bt v c = false ∧ i = 0)) : mWr v (nI c) i = v := by
  unfold mWr
  apply bt_ext
  intro x hx
  rcases h with ⟨h1, h2⟩ | ⟨h1, h2⟩
  · rw [if_neg h2, bt_or, bt_one hc hx]
    by_cases q : x = c
    · subst q; rw [h1]; rfl
    · rw [decide_eq_false q, Bool.or_false]
  · rw [if_pos h2, bt_and, bt_xor, bt_one hc hx, bt_m1 hx]
    by_cases q : x = c
    · subst q; rw [h1]; rfl
    · rw [decide_eq_false q]; simp
theorem wr_chg {v i : Int32} {c : Nat} (hc : c < 8) (h : (bt v c = true ∧ i = 0) ∨ (bt v c = false ∧ ¬ i = 0)) : mWr v (nI c) i = v ^^^ ((1 : Int32) <<< (nI c &&& 31)) ∧ ¬ mWr v (nI c) i = v := by
  have e : mWr v (nI c) i = v ^^^ ((1 : Int32) <<< (nI c &&& 31)) := by
    unfold mWr
    apply bt_ext
    intro x hx
    rcases h with ⟨h1, h2⟩ | ⟨h1, h2⟩
    · rw [if_pos h2, bt_and, bt_xor, bt_xor, bt_one hc hx, bt_m1 hx]
      by_cases q : x = c
      · subst q; rw [h1]; simp
      · rw [decide_eq_false q]; simp
    · rw [if_neg h2, bt_or, bt_xor, bt_one hc hx]
      by_cases q : x = c
      · subst q; rw [h1]; simp
      · rw [decide_eq_false q]; simp
  refine ⟨e, fun q => ?_⟩
  have w := congrArg (fun x => bt x c) (e.symm.trans q)
  have w2 : bt (v ^^^ ((1 : Int32) <<< (nI c &&& 31))) c = bt v c := w
  rw [bt_xor, bt_one hc (by omega), decide_eq_true rfl] at w2
  revert w2
  cases bt v c <;> decide
theorem xor_256 {v w : Int32} (h1 : v.toBitVec.toNat < 256) (h2 : w.toBitVec.toNat < 256) : (v ^^^ w).toBitVec.toNat < 256 := by
  rw [Int32.toBitVec_xor, BitVec.toNat_xor]
  exact Nat.xor_lt_two_pow (n := 8) h1 h2
theorem one_256 : ∀ k : Nat, k < 8 → ((1 : Int32) <<< (nI k &&& 31)).toBitVec.toNat < 256 := by decide
theorem RG.write_no {G : MG} {n : Nat} {ch row ev cr tr lw : MA} {z d c i : Int32} {j : Nat} (H : RG G n ch row ev cr tr lw z) (hd : row 0 = nI j) (hj : j ≤ 40) (h : ¬ okNR c n ∨ ¬ okNR d j) : RG (gWrite d c i G) n ch row ev cr tr lw z ∧ -1 = aWrite d c i G := by
  have hn := H.n8
  have ej := H.tdj hd hj
  have e : ¬ okW d c G := fun q => h.elim (fun w => w (by rw [H.2.1.1] at *; exact (okN_iff (by omega)).mpr q.2)) (fun w => w (by rw [ej]; exact (okN_iff H.td.2).mpr q.1))
  unfold gWrite aWrite
  rw [if_neg e, if_neg e]
  exact ⟨H, rfl⟩
/-- the reference's answer and CROSSES, by whether the CROSS is there -/
theorem RG.write_ok {G : MG} {n j d c : Nat} {ch row ev cr tr lw C : MA} {z i r : Int32} (H : RG G n ch row ev cr tr lw z) (hj : row 0 = nI j) (hj40 : j ≤ 40) (hd : d < j) (hc : c < n) (h : ((bt (cr d) c = true ∧ ¬ i = 0) ∨ (bt (cr d) c = false ∧ i = 0)) ∧ C = cr ∧ r = 0 ∨ ((bt (cr d) c = true ∧ i = 0) ∨ (bt (cr d) c = false ∧ ¬ i = 0)) ∧ C = upd cr d (cr d ^^^ ((1 : Int32) <<< (nI c &&& 31))) ∧ r = 1) : RG (gWrite (nI d) (nI c) i G) n ch row ev C tr lw z ∧ r = aWrite (nI d) (nI c) i G := by
  have hn8 := H.n8
  have ej := H.tdj hj hj40
  obtain ⟨⟨⟨i1, i2⟩, i3, i4, i5⟩, ⟨hn, h0, hz⟩, hc4, hs, v1, v2, v3, v4⟩ := H
  have e : okW (nI d) (nI c) G := ⟨⟨nI_pos (by omega), nI_lt (by omega) (by omega)⟩, by rw [← hn]; exact okN_n hc (by omega)⟩
  have ecr : cr d = gCr G d := v2 d (by omega)
  unfold gWrite aWrite
  rw [if_pos e, if_pos e, nI_clamp (by omega)]
  rw [ecr] at h
  have key : (mWr (gCr G d) (nI c) i).toBitVec.toNat < 256 ∧ Ag 40 C (upd (gCr G) d (mWr (gCr G d) (nI c) i)) ∧ r = if mWr (gCr G d) (nI c) i = gCr G d then 0 else 1 := by
    rcases h with ⟨h1, h2, h3⟩ | ⟨h1, h2, h3⟩
    · have w := wr_same (by omega : c < 8) h1
      rw [w, if_pos rfl]
      refine ⟨(i5 d (by omega)).1.1, fun x hx => ?_, h3⟩
      rw [h2]
      by_cases q : x = d
      · subst q; rw [upd_is]; exact ecr
      · rw [upd_ne _ _ q]; exact v2 x hx
    · obtain ⟨w1, w2⟩ := wr_chg (by omega : c < 8) h1
      rw [if_neg w2, w1]
      refine ⟨xor_256 (i5 d (by omega)).1.1 (one_256 c (by omega)), ?_, h3⟩
      rw [h2]
      exact Ag_set v2 _ _
  obtain ⟨k1, k2, k3⟩ := key
  refine ⟨⟨⟨⟨i1, i2⟩, i3, i4, fun x hx => ?_⟩, ⟨hn, h0, hz⟩, hc4, hs, v1, k2, v3, v4⟩, k3⟩
  show ((upd (gCr G) d _ x).toBitVec.toNat < 256 ∧ _) ∧ (gTd G ≤ x → upd (gCr G) d _ x = 0 ∧ _)
  by_cases q : x = d
  · rw [upd_at _ q]
    exact ⟨⟨k1, (i5 x hx).1.2⟩, fun w => absurd w (by omega)⟩
  · rw [upd_ne _ _ q]; exact i5 x hx

/-! answers that are told by the book -/
def aMarks (c : Int32) (G : MG) : Int32 := if okN c (gN G) then nI (mCt (fun d => bt (gCr G d) c.toNatClampNeg) 40) else -1
def aWrong (w : Int32) (G : MG) : Int32 := if w = 0 then mSumI (fun d => mPop (gCr G d &&& (gTr G d ^^^ (-1)))) 40 else if w = 1 then mSumI (fun d => mPop (gTr G d &&& (gCr G d ^^^ (-1)))) 40 else if w = 2 then mFirst (fun d => decide (¬ gCr G d = gTr G d)) (-9) 40 else -1
def aLongest (c : Int32) (G : MG) : Int32 := if okN c (gN G) then mMost (fun d => bt (gCr G d) c.toNatClampNeg) (gTd G) else -1
theorem mk_s {A : MA} {v : Int32} {c k : Nat} (hc : c < 8) (h : v = nI (mCt (fun d => bt (A d) c) k)) : v + ((A k >>> (nI c &&& 31)) &&& 1) = nI (mCt (fun d => bt (A d) c) (k + 1)) := by
  show _ = nI (if bt (A k) c = true then _ else _)
  rw [and1_bt, shr_bt hc, h]
  by_cases e : bt (A k) c = true
  · rw [if_pos e, if_pos e, nI_1]
  · rw [if_neg e, if_neg e, Int32.add_zero]
theorem mk_y {A : MA} {v : Int32} {c k : Nat} (hc : c < 8) (h : v = nI (mCt (fun d => bt (A d) c) k)) (e : mBitI (A k) (nI c) = true) : v + 1 = nI (mCt (fun d => bt (A d) c) (k + 1)) := by
  have e2 : bt (A k) c = true := by rw [← mBit_bt hc]; exact e
  show _ = nI (if bt (A k) c = true then _ else _)
  rw [if_pos e2, h, nI_1]
theorem mk_n {A : MA} {v : Int32} {c k : Nat} (hc : c < 8) (h : v = nI (mCt (fun d => bt (A d) c) k)) (e : ¬ mBitI (A k) (nI c) = true) : v = nI (mCt (fun d => bt (A d) c) (k + 1)) := by
  have e2 : ¬ bt (A k) c = true := by rw [← mBit_bt hc]; exact e
  show _ = nI (if bt (A k) c = true then _ else _)
  rw [if_neg e2, h]
/-- the first of the first k for which f holds, as v tells it -/
def FI (f : Nat → Bool) (v : Int32) (k : Nat) : Prop := (v = -9 ∧ ∀ j, j < k → f j = false) ∨ ∃ m, m < k ∧ m < 40 ∧ (∀ j, j < m → f j = false) ∧ f m = true ∧ v = nI m
theorem FI_0 {f : Nat → Bool} : FI f (-9) 0 := Or.inl ⟨rfl, fun j hj => absurd hj (Nat.not_lt_zero j)⟩
theorem FI_k {f : Nat → Bool} {v : Int32} {k : Nat} (h : FI f v k) (e : v < 0 → f k = false) : FI f v (k + 1) := by
  rcases h with ⟨h1, h2⟩ | ⟨m, h1, h2, h3, h4, h5⟩
  · refine Or.inl ⟨h1, fun j hj => ?_⟩
    by_cases q : j = k
    · subst q; exact e (by rw [h1]; decide)
    · exact h2 j (by omega)
  · exact Or.inr ⟨m, by omega, h2, h3, h4, h5⟩
theorem FI_n {f : Nat → Bool} {v : Int32} {k : Nat} (h : FI f v k) (hv : v < 0) (hk : k < 40) (e : f k = true) : FI f (nI k) (k + 1) := by
  rcases h with ⟨_, h2⟩ | ⟨m, h1, h2, _, _, h5⟩
  · exact Or.inr ⟨k, by omega, hk, h2, e, rfl⟩
  · exact absurd hv (by rw [h5]; exact nI_pos (by omega))
theorem FI_f {f : Nat → Bool} {v : Int32} {k : Nat} (h : FI f v k) (hk : k ≤ 40) (e : ∀ d, k ≤ d → d < 40 → f d = false) : v = mFirst f (-9) 40 := by
  rcases h with ⟨h1, h2⟩ | ⟨m, h1, h2, h3, h4, h5⟩
  · rw [h1, mFirst_no (fun j hj => by
      by_cases q : j < k
      · exact h2 j q
      · exact e j (by omega) hj)]
  · rw [h5, mFirst_yes h3 h4 40 h2]
def Sm (A B : MA) : Prop := ∀ d : Nat, d < 40 → (A d).toBitVec.toNat < 256 ∧ (B d).toBitVec.toNat < 256
theorem and_256 {v w : Int32} (h : v.toBitVec.toNat < 256) : (v &&& w).toBitVec.toNat < 256 := by
  rw [Int32.toBitVec_and, BitVec.toNat_and]
  exact Nat.lt_of_le_of_lt Nat.and_le_left h
theorem sum_s {A B : MA} {f : Nat → Int32} {v : Int32} {k c : Nat} (H : Sm A B → v = mSumI (fun d => mPop (f d)) k) (hx : Sm A B → (f k).toBitVec.toNat < 256) (hc : (f k).toBitVec.toNat < 256 → nI c = mPop (f k)) : Sm A B → v + nI c = mSumI (fun d => mPop (f d)) (k + 1) := fun q => by
  show _ = mSumI _ k + mPop (f k)
  rw [H q, hc (hx q)]
theorem mSumI_tail {f : Nat → Int32} {t : Nat} : ∀ n : Nat, t ≤ n → (∀ d, t ≤ d → d < n → f d = 0) → mSumI f n = mSumI f t
  | 0, h, _ => by rw [show t = 0 from by omega]
  | n + 1, h, e => by
    by_cases q : t = n + 1
    · rw [q]
    · show mSumI f n + f n = _
      rw [e n (by omega) (by omega), Int32.add_zero]
      exact mSumI_tail n (by omega) (fun d h1 h2 => e d h1 (by omega))
theorem lg_s {f : Nat → Bool} {v5 v6 a b : Int32} {k : Nat} (h : v5 = mMost f k ∧ v6 = mRun f k) (hn : a = if f k = true then 0 else v6 + 1) (hm : b = if v5 < a then a else v5) : b = mMost f (k + 1) ∧ a = mRun f (k + 1) := by
  have e : a = mRun f (k + 1) := by
    rw [hn, h.2]; rfl
  refine ⟨?_, e⟩
  show b = mMax (mMost f k) (mRun f (k + 1))
  rw [← e, ← h.1]
  exact hm
section ANS
variable {G : MG} {n : Nat} {ch row ev cr tr lw : MA} {z : Int32}
theorem RG.sm (H : RG G n ch row ev cr tr lw z) : Sm cr tr := fun d hd => by
  rw [H.2.2.2.2.2.1 d hd, H.2.2.2.2.2.2.1 d hd]; exact (H.1.2.2.2 d hd).1
theorem RG.marks_no (H : RG G n ch row ev cr tr lw z) {c : Int32} (h : ¬ okNR c n) : -1 = aMarks c G := by
  have hn := H.n8
  unfold aMarks
  rw [if_neg (fun q => h (by rw [H.2.1.1] at *; exact (okN_iff (by omega)).mpr q))]
theorem RG.marks_ok (H : RG G n ch row ev cr tr lw z) {c k : Nat} {v : Int32} (hc : c < n) (hk : k = 40) (h : v = nI (mCt (fun d => bt (cr d) c) k)) : v = aMarks (nI c) G := by
  have hn := H.n8
  unfold aMarks
  rw [if_pos (show okN (nI c) (gN G) from by rw [← H.2.1.1]; exact okN_n hc (by omega)), nI_clamp (by omega), h, hk, mCt_cg 40 (fun d hd => by rw [H.2.2.2.2.2.1 d hd])]
theorem RG.longest_no (H : RG G n ch row ev cr tr lw z) {c : Int32} (h : ¬ okNR c n) : -1 = aLongest c G := by
  have hn := H.n8
  unfold aLongest
  rw [if_neg (fun q => h (by rw [H.2.1.1] at *; exact (okN_iff (by omega)).mpr q))]
theorem mRun_cg {f g : Nat → Bool} : ∀ k, (∀ i, i < k → f i = g i) → mRun f k = mRun g k
  | 0, _ => rfl
  | k + 1, h => by
    unfold mRun
    rw [h k (by omega), mRun_cg k (fun i hi => h i (by omega))]
theorem mMost_cg {f g : Nat → Bool} : ∀ k, (∀ i, i < k → f i = g i) → mMost f k = mMost g k
  | 0, _ => rfl
  | k + 1, h => by
    unfold mMost
    rw [mMost_cg k (fun i hi => h i (by omega)), mRun_cg (k + 1) h]
theorem RG.longest_ok (H : RG G n ch row ev cr tr lw z) {c k j : Nat} {v w : Int32} (hc : c < n) (hj : row 0 = nI j) (hj40 : j ≤ 40) (hk : k = j) (h : v = mMost (fun d => bt (cr d) c) k ∧ w = mRun (fun d => bt (cr d) c) k) : v = aLongest (nI c) G := by
  have hn := H.n8
  have ej := H.tdj hj hj40
  unfold aLongest
  rw [if_pos (show okN (nI c) (gN G) from by rw [← H.2.1.1]; exact okN_n hc (by omega)), nI_clamp (by omega), h.1, hk, ej, mMost_cg (gTd G) (fun d hd => by rw [H.2.2.2.2.2.1 d (by omega)])]
theorem RG.wrong_no (_H : RG G n ch row ev cr tr lw z) {w : Int32} (h : ¬ (¬ w < 0 ∧ ¬ 2 < w)) : -1 = aWrong w G := by
  have k : ∀ j : Nat, j ≤ 2 → ¬ w = nI j := fun j hj q => h (by
    subst q; exact ⟨nI_pos (by omega), nI_nlt (a := 2) hj (by decide)⟩)
  unfold aWrong
  rw [if_neg (show ¬ w = 0 from k 0 (by decide)), if_neg (show ¬ w = 1 from k 1 (by decide)), if_neg (show ¬ w = 2 from k 2 (by decide))]
theorem RG.wrong_ok (H : RG G n ch row ev cr tr lw z) {k j : Nat} {a b v w r : Int32} (hj : row 0 = nI j) (hj40 : j ≤ 40) (hk : k = j) (ha : Sm cr tr → a = mSumI (fun d => mPop (cr d &&& (tr d ^^^ (-1)))) k) (hb : Sm cr tr → b = mSumI (fun d => mPop (tr d &&& (cr d ^^^ (-1)))) k) (hv : FI (fun d => decide (¬ cr d = tr d)) v k) (hr : (w = 0 ∧ r = a) ∨ (w = 1 ∧ r = b) ∨ (w = 2 ∧ r = v)) : r = aWrong w G := by
  have ej := H.tdj hj hj40
  have hs := H.sm
  have hI := H.1.2.2.2
  have hc := H.2.2.2.2.2.1
  have ht := H.2.2.2.2.2.2.1
  have e0 : (0 : Int32) &&& ((0 : Int32) ^^^ (-1)) = 0 := by decide
  have ep : mPop 0 = 0 := by decide
  subst ej
  subst hk
  unfold aWrong
  rcases hr with ⟨q, e⟩ | ⟨q, e⟩ | ⟨q, e⟩
  · rw [if_pos q, e, ha hs, mSumI_tail (f := fun d => mPop (gCr G d &&& (gTr G d ^^^ (-1)))) 40 hj40 (fun d h1 h2 => by rw [((hI d h2).2 h1).1, ((hI d h2).2 h1).2, e0, ep])]
    exact mSumI_cg _ (fun d hd => by rw [hc d (by omega), ht d (by omega)])
  · rw [if_neg (by rw [q]; decide), if_pos q, e, hb hs, mSumI_tail (f := fun d => mPop (gTr G d &&& (gCr G d ^^^ (-1)))) 40 hj40 (fun d h1 h2 => by rw [((hI d h2).2 h1).1, ((hI d h2).2 h1).2, e0, ep])]
    exact mSumI_cg _ (fun d hd => by rw [hc d (by omega), ht d (by omega)])
  · rw [if_neg (by rw [q]; decide), if_neg (by rw [q]; decide), if_pos q, e]
    have ef : (fun d => decide (¬ gCr G d = gTr G d)) = fun d => decide (¬ gCr G d = gTr G d) := rfl
    have hv2 : FI (fun d => decide (¬ gCr G d = gTr G d)) v (gTd G) := by
      rcases hv with ⟨h1, h2⟩ | ⟨m, h1, h2, h3, h4, h5⟩
      · exact Or.inl ⟨h1, fun i hi => by have w : decide (¬ cr i = tr i) = false := h2 i hi; show decide (¬ gCr G i = gTr G i) = false; rw [← hc i (by omega), ← ht i (by omega)]; exact w⟩
      · exact Or.inr ⟨m, h1, h2, fun i hi => by have w : decide (¬ cr i = tr i) = false := h3 i hi; show decide (¬ gCr G i = gTr G i) = false; rw [← hc i (by omega), ← ht i (by omega)]; exact w, by have w : decide (¬ cr m = tr m) = true := h4; show decide (¬ gCr G m = gTr G m) = true; rw [← hc m (by omega), ← ht m (by omega)]; exact w, h5⟩
    exact FI_f hv2 hj40 (fun d h1 h2 => by rw [((hI d h2).2 h1).1, ((hI d h2).2 h1).2]; decide)
end ANS
/-! the class's -/
theorem cg_marks_no {G : MG} {c : Int32} (e : ¬ okN c (gN G)) : -1 = aMarks c G := by unfold aMarks; rw [if_neg e]
theorem cg_marks_ok {G : MG} {c k : Nat} {v : Int32} (hc : c < gN G) (hn : gN G ≤ 8) (hk : k = 40) (h : v = nI (mCt (fun d => bt (gCr G d) c) k)) : v = aMarks (nI c) G := by
  unfold aMarks
  rw [if_pos (okN_n hc (by omega)), nI_clamp (by omega), h, hk]
theorem cg_longest_no {G : MG} {c : Int32} (e : ¬ okN c (gN G)) : -1 = aLongest c G := by unfold aLongest; rw [if_neg e]
theorem cg_longest_ok {G : MG} {c : Nat} (hc : c < gN G) (hn : gN G ≤ 8) : mMost (fun d => mBitI (gCr G d) (nI c)) (gTd G) = aLongest (nI c) G := by
  unfold aLongest
  rw [if_pos (okN_n hc (by omega)), nI_clamp (by omega)]
  exact mMost_cg _ (fun d _ => mBit_bt (by omega))

/-! trials -/
def aThere (m : Int32) (G : MG) : Int32 := mThA (gKd G) (gKa G) (gHo G) (gFa G) (gEv G) (gLw G) (gN G) (gT3 G) (gTd G) m
abbrev gComes (G : MG) (v : Int32) (m : Nat) : Int32 := mComes (gKd G) (gKa G) (gHo G) (gFa G) (gEv G) (gLw G) (gN G) (gSi G, mKnS (gHo G) (gLw G) v (gKn G) (gN G) 6, gAw G) (gTd G) m
theorem mKnS_0 {ho lw kn : MA} {n : Nat} : ∀ j : Nat, j ≤ 6 → mKnS ho lw 0 kn n j = kn
  | 0, _ => rfl
  | j + 1, h => by
    have e : ∀ j, j < 6 → mBit 0 j = false := by decide
    unfold mKnS
    rw [if_neg (by rw [e j (by omega)]; decide)]
    exact mKnS_0 j (by omega)
section TRI
variable {G : MG} {n : Nat} {ch row ev cr tr lw : MA} {z : Int32}
theorem RG.ag (H : RG G n ch row ev cr tr lw z) : Ag n (xC ch 0) (gKd G) ∧ Ag n (xC ch 1) (gKa G) ∧ Ag n (xC ch 2) (gHo G) ∧ Ag n (xC ch 3) (gFa G) ∧ Ag 40 ev (gEv G) ∧ Ag 4 lw (gLw G) ∧ Ag3 n (s3R row 0) (gT3 G) := by
  obtain ⟨_, _, ⟨c0, c1, c2, c3⟩, ⟨s0, s1, s2⟩, v1, _, _, v4⟩ := H
  exact ⟨c0, c1, c2, c3, v1, v4, s0, s1, s2⟩
/-- the reference's trial is the class's -/
theorem RG.di (H : RG G n ch row ev cr tr lw z) (i : Nat) : fDI ch row ev lw n 0 (gTd G) i = gDI G i := by
  obtain ⟨c0, c1, c2, c3, v1, v4, s⟩ := H.ag
  have e := mDI_cg (td := gTd G) c0 c1 c2 c3 v1 v4 s i
  have hn := H.2.1.1
  show mDI _ _ _ _ _ _ _ _ _ _ = mDI _ _ _ _ _ _ _ _ _ _
  rw [← hn]; exact e
theorem RG.di3 (H : RG G n ch row ev cr tr lw z) {s s2 : mT3} (hs : Ag3 n s s2) (i : Nat) : mDI (xC ch 0) (xC ch 1) (xC ch 2) (xC ch 3) ev lw n s (gTd G) i = mDI (gKd G) (gKa G) (gHo G) (gFa G) (gEv G) (gLw G) (gN G) s2 (gTd G) i := by
  obtain ⟨c0, c1, c2, c3, v1, v4, _⟩ := H.ag
  have e := mDI_cg (td := gTd G) c0 c1 c2 c3 v1 v4 hs i
  have hn := H.2.1.1
  rw [← hn]; exact e
theorem RG.comes (H : RG G n ch row ev cr tr lw z) {s s2 : mT3} (hs : Ag3 n s s2) (m : Nat) : mComes (xC ch 0) (xC ch 1) (xC ch 2) (xC ch 3) ev lw n s (gTd G) m = mComes (gKd G) (gKa G) (gHo G) (gFa G) (gEv G) (gLw G) (gN G) s2 (gTd G) m := by
  unfold mComes
  exact mSumI_cg _ (fun i _ => by
    show mPop _ = mPop _
    rw [H.di3 hs i])
theorem RG.there (H : RG G n ch row ev cr tr lw z) {m r : Int32} (h : r = mThA (xC ch 0) (xC ch 1) (xC ch 2) (xC ch 3) ev lw n (s3R row 0) (gTd G) m) : r = aThere m G := by
  rw [h]
  unfold aThere mThA
  split
  · rfl
  · exact H.comes H.ag.2.2.2.2.2.2 _
theorem gDI_lt (hn : gN G ≤ 8) (i : Nat) : (gDI G i).toBitVec.toNat < 256 := by
  show (mDI _ _ _ _ _ _ _ _ _ _).toBitVec.toNat < 256
  unfold mDI mThere
  exact mBits_lt _ _ hn
/-! MEET -/
def aMeet (a b m : Int32) (G : MG) : Int32 := if (okN a (gN G) ∧ okN b (gN G)) ∧ ¬ a = b ∧ ok20 m then nI (mCt (fun i => bt (gDI G i) a.toNatClampNeg && bt (gDI G i) b.toNatClampNeg) (min m.toNatClampNeg (40 - gTd G))) else -1
theorem shr2_bt {v : Int32} {a b : Nat} (ha : a < 8) (hb : b < 8) : (v >>> (nI a &&& 31)) &&& (v >>> (nI b &&& 31)) &&& 1 = if (bt v a && bt v b) = true then 1 else 0 := by
  rw [and1_bt, bt_and, shr_bt ha, shr_bt hb]
theorem meet_s {f : Nat → Int32} {v : Int32} {a b k : Nat} {x : Int32} (ha : a < 8) (hb : b < 8) (h : v = nI (mCt (fun i => bt (f i) a && bt (f i) b) k)) (hx : x = f k) : v + ((x >>> (nI a &&& 31)) &&& (x >>> (nI b &&& 31)) &&& 1) = nI (mCt (fun i => bt (f i) a && bt (f i) b) (k + 1)) := by
  show _ = nI (if (bt (f k) a && bt (f k) b) = true then _ else _)
  rw [shr2_bt ha hb, h, hx]
  by_cases e : (bt (f k) a && bt (f k) b) = true
  · rw [if_pos e, if_pos e, nI_1]
  · rw [if_neg e, if_neg e, Int32.add_zero]
/-- the class's test of a day -/
theorem two_in {v : Int32} {a b : Nat} (ha : a < 8) (hb : b < 8) : decide (v &&& (((1 : Int32) <<< (nI a &&& 31)) ||| ((1 : Int32) <<< (nI b &&& 31))) = ((1 : Int32) <<< (nI a &&& 31)) ||| ((1 : Int32) <<< (nI b &&& 31))) = (bt v a && bt v b) := by
  by_cases e : (bt v a && bt v b) = true
  · rw [e]
    apply decide_eq_true
    rw [Bool.and_eq_true] at e
    apply bt_ext
    intro i hi
    rw [bt_and, bt_or, bt_one ha hi, bt_one hb hi]
    by_cases p : i = a
    · subst p; rw [e.1]; simp
    · by_cases q : i = b
      · subst q; rw [e.2]; simp
      · rw [decide_eq_false p, decide_eq_false q]; simp
  · rw [Bool.eq_false_iff.mpr e]
    apply decide_eq_false
    intro w
    apply e
    have wa := congrArg (fun x => bt x a) w
    have wb := congrArg (fun x => bt x b) w
    have wa2 : bt (v &&& (((1 : Int32) <<< (nI a &&& 31)) ||| ((1 : Int32) <<< (nI b &&& 31)))) a = bt (((1 : Int32) <<< (nI a &&& 31)) ||| ((1 : Int32) <<< (nI b &&& 31))) a := wa
    have wb2 : bt (v &&& (((1 : Int32) <<< (nI a &&& 31)) ||| ((1 : Int32) <<< (nI b &&& 31)))) b = bt (((1 : Int32) <<< (nI a &&& 31)) ||| ((1 : Int32) <<< (nI b &&& 31))) b := wb
    rw [bt_and, bt_or, bt_one ha (by omega), bt_one hb (by omega), decide_eq_true (rfl : a = a)] at wa2
    rw [bt_and, bt_or, bt_one ha (by omega), bt_one hb (by omega), decide_eq_true (rfl : b = b)] at wb2
    simp at wa2 wb2
    rw [wa2, wb2]; rfl
theorem RG.meet_no (H : RG G n ch row ev cr tr lw z) {a b m : Int32} (h : ¬ okNR a n ∨ ¬ okNR b n ∨ a = b ∨ ¬ ok20 m) : -1 = aMeet a b m G := by
  have hn := H.n8
  have e : ¬ ((okN a (gN G) ∧ okN b (gN G)) ∧ ¬ a = b ∧ ok20 m) := fun q => by
    rcases h with w | w | w | w
    · exact w (by rw [H.2.1.1] at *; exact (okN_iff (by omega)).mpr q.1.1)
    · exact w (by rw [H.2.1.1] at *; exact (okN_iff (by omega)).mpr q.1.2)
    · exact q.2.1 w
    · exact w q.2.2
  unfold aMeet
  rw [if_neg e]
theorem ok20_n {m : Nat} (h : m ≤ 20) : ok20 (nI m) := ⟨nI_pos (by omega), nI_nlt (b := m) (a := 20) h (by decide)⟩
theorem RG.meet_ok (H : RG G n ch row ev cr tr lw z) {a b m k : Nat} {v : Int32} (ha : a < n) (hb : b < n) (hab : ¬ a = b) (hm : m ≤ 20) (hk : k = min m (40 - gTd G)) (h : v = nI (mCt (fun i => bt (fDI ch row ev lw n 0 (gTd G) i) a && bt (fDI ch row ev lw n 0 (gTd G) i) b) k)) : v = aMeet (nI a) (nI b) (nI m) G := by
  have hn := H.n8
  unfold aMeet
  rw [if_pos (show (okN (nI a) (gN G) ∧ okN (nI b) (gN G)) ∧ ¬ nI a = nI b ∧ ok20 (nI m) from by
    rw [← H.2.1.1]; exact ⟨⟨okN_n ha (by omega), okN_n hb (by omega)⟩, fun q => hab ((nI_eq (by omega) (by omega)).mp q), ok20_n hm⟩), nI_clamp (by omega), nI_clamp (by omega), nI_clamp (by omega), h, hk]
  congr 1
  exact mCt_cg _ (fun i _ => by rw [H.di i])
end TRI
/-! days on the lent row, from a state s0 on -/
def GoB (ch X ev lw : MA) (n p0 d i : Nat) (s0 : mT3) : Prop := Ag3 n (s3R X p0) (mGo (xC ch 0) (xC ch 1) (xC ch 2) (xC ch 3) ev lw n s0 d i) ∧ X p0 = nI (d + i) ∧ NNr X lw n p0
theorem GoB_s {ch X Y ev lw : MA} {n p0 d i : Nat} {s0 : mT3} {th : Int32} (hn : n ≤ 8) (h : GoB ch X ev lw n p0 d i s0) (hP : DayP ch X Y lw n p0 (d + i) th) (hth : th = mThere (xC ch 0) (xC ch 1) (xC ch 3) (xR X (p0 + 1)) (xR X (p0 + 9)) (xR X (p0 + 17)) ev lw (d + i) n) : GoB ch Y ev lw n p0 d (i + 1) s0 ∧ th = mDI (xC ch 0) (xC ch 1) (xC ch 2) (xC ch 3) ev lw n s0 d i := by
  obtain ⟨g, e⟩ := GoR_s (i := 0) (d := d + i) hn (GoR_0 h.2.1 h.2.2) hP hth
  obtain ⟨g1, g2, g3, _⟩ := g
  have c1 := mGo_cg (td := d + i) (Ag.rf : Ag n (xC ch 0) (xC ch 0)) (Ag.rf : Ag n (xC ch 1) (xC ch 1)) (Ag.rf : Ag n (xC ch 2) (xC ch 2)) (Ag.rf : Ag n (xC ch 3) (xC ch 3)) (Ag.rf : Ag 40 ev ev) (Ag.rf : Ag 4 lw lw) h.1 1
  have c0 := mDI_cg (td := d + i) (Ag.rf : Ag n (xC ch 0) (xC ch 0)) (Ag.rf : Ag n (xC ch 1) (xC ch 1)) (Ag.rf : Ag n (xC ch 2) (xC ch 2)) (Ag.rf : Ag n (xC ch 3) (xC ch 3)) (Ag.rf : Ag 40 ev ev) (Ag.rf : Ag 4 lw lw) h.1 0
  refine ⟨⟨⟨g1.1.trans c1.1, g1.2.1.trans c1.2.1, g1.2.2.trans c1.2.2⟩, ?_, g3⟩, e.trans c0⟩
  rw [g2]; rfl
theorem GoB_0 {ch L row ev lw : MA} {n d : Nat} (hn : n ≤ 8) (hL : ∀ i : Nat, i < 25 → L (25 + i) = row i) (h : row 0 = nI d) (nn : NNr row lw n 0) : GoB ch L ev lw n 25 d 0 (s3R row 0) := ⟨ld_ag hL hn, (hL 0 (by decide)).trans h, ld_nn hL hn nn⟩
section GB
variable {ch X Y ev lw : MA} {n p0 d k j m c : Nat} {s0 : mT3} {r v : Int32}
abbrev bDI (ch ev lw : MA) (n d : Nat) (s0 : mT3) : Nat → Int32 := fun i => mDI (xC ch 0) (xC ch 1) (xC ch 2) (xC ch 3) ev lw n s0 d i
theorem go_b (hn : n ≤ 8) (H : GoB ch X ev lw n p0 d k s0 ∧ d + k ≤ 40) (hj : X p0 = nI j) (hj40 : j ≤ 40) (hb : ¬ 40 ≤ j) (Q : ∀ i : Nat, i < 40 → X p0 = nI i → r = mThere (xC ch 0) (xC ch 1) (xC ch 3) (xR X (p0 + 1)) (xR X (p0 + 9)) (xR X (p0 + 17)) ev lw i n ∧ DayP ch X Y lw n p0 i r) : (GoB ch Y ev lw n p0 d (k + 1) s0 ∧ d + (k + 1) ≤ 40) ∧ r = bDI ch ev lw n d s0 k ∧ r.toBitVec.toNat < 256 ∧ j = d + k := by
  have e : j = d + k := (nI_eq (by omega) (by omega)).mp (hj.symm.trans H.1.2.1)
  subst e
  obtain ⟨q1, q2⟩ := Q (d + k) (by omega) hj
  obtain ⟨g1, g2⟩ := GoB_s hn H.1 q2 q1
  exact ⟨⟨g1, by omega⟩, g2, by rw [q1]; exact mBits_lt _ n hn, rfl⟩
theorem go_bk (H : GoB ch X ev lw n p0 d k s0 ∧ d + k ≤ 40) (hk : k ≤ m) (hx : m ≤ k ∨ (X p0 = nI j ∧ j ≤ 40 ∧ 40 ≤ j)) : k = min m (40 - d) := by
  rcases hx with e | ⟨e1, e2, e3⟩
  · omega
  · have e : j = d + k := (nI_eq (by omega) (by omega)).mp (e1.symm.trans H.1.2.1)
    omega
theorem go_meet {a b : Nat} (hn : n ≤ 8) (ha : a < 8) (hb8 : b < 8) (H : (GoB ch X ev lw n p0 d k s0 ∧ d + k ≤ 40) ∧ v = nI (mCt (fun i => bt (bDI ch ev lw n d s0 i) a && bt (bDI ch ev lw n d s0 i) b) k)) (hj : X p0 = nI j) (hj40 : j ≤ 40) (hb : ¬ 40 ≤ j) (Q : ∀ i : Nat, i < 40 → X p0 = nI i → r = mThere (xC ch 0) (xC ch 1) (xC ch 3) (xR X (p0 + 1)) (xR X (p0 + 9)) (xR X (p0 + 17)) ev lw i n ∧ DayP ch X Y lw n p0 i r) : (GoB ch Y ev lw n p0 d (k + 1) s0 ∧ d + (k + 1) ≤ 40) ∧ v + ((r >>> (nI a &&& 31)) &&& (r >>> (nI b &&& 31)) &&& 1) = nI (mCt (fun i => bt (bDI ch ev lw n d s0 i) a && bt (bDI ch ev lw n d s0 i) b) (k + 1)) := by
  obtain ⟨g1, g2, _, _⟩ := go_b hn H.1 hj hj40 hb Q
  exact ⟨g1, meet_s ha hb8 H.2 g2⟩
/-! LEAST -/
/-- the reference's best day and how many are there on it, behind k days -/
def LeR (f : Nat → Int32) (d k : Nat) : Int32 × Int32 := if k = 0 then (-3, 0) else mLeast f d k
theorem mLeast_pos {f : Nat → Int32} {d : Nat} (hf : ∀ i, f i < 9) : ∀ k : Nat, d + k < 100 → ¬ k = 0 → ∃ j : Nat, j < 100 ∧ (mLeast f d k).1 = nI j
  | 0, _, h => absurd rfl h
  | 1, hd, _ => by
    unfold mLeast
    rw [if_pos (show f 0 < (mLeast f d 0).2 from hf 0)]
    exact ⟨d, by omega, by show nI (d + 1) - 1 = _; rw [nI_pred]⟩
  | k + 2, hd, _ => by
    unfold mLeast
    by_cases e : f (k + 1) < (mLeast f d (k + 1)).2
    · rw [if_pos e]
      exact ⟨d + (k + 1), by omega, by show nI (d + (k + 1) + 1) - 1 = _; rw [nI_pred]⟩
    · rw [if_neg e]; exact mLeast_pos hf (k + 1) (by omega) (by omega)
theorem le_s {f : Nat → Int32} {b w x : Int32} {d k : Nat} (hd : d + k < 50) (hf : ∀ i, f i < 9) (h : (b, w) = LeR f d k) (hx : x = f k) : (b < 0 ∨ x < w → (nI (d + (k + 1)) - 1, x) = LeR f d (k + 1)) ∧ (¬ (b < 0 ∨ x < w) → (b, w) = LeR f d (k + 1)) := by
  unfold LeR at h ⊢
  rw [if_neg (show ¬ k + 1 = 0 by omega)]
  by_cases e : k = 0
  · subst e
    rw [if_pos rfl] at h
    have hb : b = -3 := congrArg Prod.fst h
    refine ⟨fun _ => ?_, fun q => absurd (Or.inl (by rw [hb]; decide)) q⟩
    unfold mLeast
    rw [if_pos (show f 0 < (mLeast f d 0).2 from hf 0), hx]
  · rw [if_neg e] at h
    obtain ⟨j, hj, ej⟩ := mLeast_pos (d := d) hf k (by omega) e
    have hb : b = (mLeast f d k).1 := congrArg Prod.fst h
    have hw : w = (mLeast f d k).2 := congrArg Prod.snd h
    have hn : ¬ b < 0 := by rw [hb, ej]; exact nI_pos (by omega)
    refine ⟨fun q => ?_, fun q => ?_⟩
    · unfold mLeast
      rw [if_pos (by rw [← hw, ← hx]; exact q.resolve_left hn), hx]
    · unfold mLeast
      rw [if_neg (by rw [← hw, ← hx]; exact fun z => q (Or.inr z))]
      exact h
theorem pop_9 {x : Int32} (h : x.toBitVec.toNat < 256) : mPop x < 9 := by
  obtain ⟨k, hk, e⟩ := pop_is h
  rw [e]
  exact nI_lt (b := 9) (by omega) (by decide)
theorem bDI_lt (hn : n ≤ 8) (i : Nat) : (bDI ch ev lw n d s0 i).toBitVec.toNat < 256 := by
  show (mDI _ _ _ _ _ _ _ _ _ _).toBitVec.toNat < 256
  unfold mDI mThere
  exact mBits_lt _ _ hn
/-! GOOD -/
/-- found: what the reference knows behind k days -/
def GdR (f : Nat → Bool) (d k : Nat) (v : Int32) : Prop := (v = -3 ∧ ∀ j, j < k + 1 → f j = false) ∨ (1 ≤ k ∧ f k = true ∧ (∀ j, j < k → f j = false) ∧ v = nI (d + k) - 1)
theorem gd_n {f : Nat → Bool} {d k : Nat} {v : Int32} (h : GdR f d k v) (hv : v < 0) (hk : d + k < 100) (e : f (k + 1) = false) : GdR f d (k + 1) (-3) := by
  rcases h with ⟨_, h2⟩ | ⟨h0, _, _, h3⟩
  · refine Or.inl ⟨rfl, fun j hj => ?_⟩
    by_cases q : j = k + 1
    · subst q; exact e
    · exact h2 j (by omega)
  · exfalso
    rw [h3, show d + k = (d + k - 1) + 1 from by omega, nI_pred] at hv
    exact nI_pos (by omega) hv
theorem gd_y {f : Nat → Bool} {d k : Nat} {v : Int32} (h : GdR f d k v) (hv : v < 0) (hk : d + k < 100) (e : f (k + 1) = true) : GdR f d (k + 1) (nI (d + (k + 1)) - 1) := by
  rcases h with ⟨_, h2⟩ | ⟨h0, _, _, h3⟩
  · exact Or.inr ⟨by omega, e, fun j hj => h2 j hj, rfl⟩
  · exfalso
    rw [h3, show d + k = (d + k - 1) + 1 from by omega, nI_pred] at hv
    exact nI_pos (by omega) hv
theorem go_ly {b w : Int32} {e : Nat} (hn : n ≤ 8) (H : (GoB ch X ev lw n p0 d k s0 ∧ d + k ≤ 40) ∧ (b, w) = LeR (fun i => mPop (bDI ch ev lw n d s0 i)) d k) (hj : X p0 = nI j) (hj40 : j ≤ 40) (hb : ¬ 40 ≤ j) (Q : ∀ i : Nat, i < 40 → X p0 = nI i → r = mThere (xC ch 0) (xC ch 1) (xC ch 3) (xR X (p0 + 1)) (xR X (p0 + 9)) (xR X (p0 + 17)) ev lw i n ∧ DayP ch X Y lw n p0 i r) (hc : r.toBitVec.toNat < 256 → nI e = mPop r) (hy : b < 0 ∨ nI e < w) : (GoB ch Y ev lw n p0 d (k + 1) s0 ∧ d + (k + 1) ≤ 40) ∧ (nI (d + (k + 1)) - 1, nI e) = LeR (fun i => mPop (bDI ch ev lw n d s0 i)) d (k + 1) := by
  obtain ⟨g1, g2, g3, _⟩ := go_b hn H.1 hj hj40 hb Q
  exact ⟨g1, (le_s (by omega) (fun i => pop_9 (bDI_lt hn i)) H.2 (by rw [hc g3, g2])).1 hy⟩
theorem go_ln {b w : Int32} {e : Nat} (hn : n ≤ 8) (H : (GoB ch X ev lw n p0 d k s0 ∧ d + k ≤ 40) ∧ (b, w) = LeR (fun i => mPop (bDI ch ev lw n d s0 i)) d k) (hj : X p0 = nI j) (hj40 : j ≤ 40) (hb : ¬ 40 ≤ j) (Q : ∀ i : Nat, i < 40 → X p0 = nI i → r = mThere (xC ch 0) (xC ch 1) (xC ch 3) (xR X (p0 + 1)) (xR X (p0 + 9)) (xR X (p0 + 17)) ev lw i n ∧ DayP ch X Y lw n p0 i r) (hc : r.toBitVec.toNat < 256 → nI e = mPop r) (hy : ¬ (b < 0 ∨ nI e < w)) : (GoB ch Y ev lw n p0 d (k + 1) s0 ∧ d + (k + 1) ≤ 40) ∧ (b, w) = LeR (fun i => mPop (bDI ch ev lw n d s0 i)) d (k + 1) := by
  obtain ⟨g1, g2, g3, _⟩ := go_b hn H.1 hj hj40 hb Q
  exact ⟨g1, (le_s (by omega) (fun i => pop_9 (bDI_lt hn i)) H.2 (by rw [hc g3, g2])).2 hy⟩
theorem go_l77 {w : Int32} {e : Nat} (H : (GoB ch X ev lw n p0 d k s0 ∧ d + k ≤ 40) ∧ (nI (d + k) - 1, w) = LeR (fun i => mPop (bDI ch ev lw n d s0 i)) d k) (hr : X p0 = nI e) : (GoB ch X ev lw n p0 d k s0 ∧ d + k ≤ 40) ∧ (nI e - 1, w) = LeR (fun i => mPop (bDI ch ev lw n d s0 i)) d k := by
  refine ⟨H.1, ?_⟩
  rw [← hr, H.1.1.2.1]; exact H.2
end GB
def aLeast (m : Int32) (G : MG) : Int32 := if ¬ m < 1 ∧ ¬ 20 < m then (mLeast (fun i => mPop (gDI G i)) (gTd G) (min m.toNatClampNeg (40 - gTd G))).1 else -1
theorem mLeast_cg {f g : Nat → Int32} {d : Nat} : ∀ k : Nat, (∀ i, i < k → f i = g i) → mLeast f d k = mLeast g d k
  | 0, _ => rfl
  | k + 1, h => by
    unfold mLeast
    rw [h k (by omega), mLeast_cg k (fun i hi => h i (by omega))]
section LE
variable {G : MG} {n : Nat} {ch row ev cr tr lw : MA} {z : Int32}
theorem RG.least_no (_H : RG G n ch row ev cr tr lw z) {m : Int32} (h : ¬ (¬ m < 1 ∧ ¬ 20 < m)) : -1 = aLeast m G := by unfold aLeast; rw [if_neg h]
theorem ok1_n {m : Nat} (h1 : 1 ≤ m) (h : m ≤ 20) : ¬ nI m < 1 ∧ ¬ 20 < nI m := ⟨nI_nlt (a := m) (b := 1) h1 (by omega), nI_nlt (b := m) (a := 20) h (by decide)⟩
theorem RG.least_st (H : RG G n ch row ev cr tr lw z) {m : Nat} (h1 : 1 ≤ m) (hm : m ≤ 20) (h : row 0 = nI 40) : -3 = aLeast (nI m) G := by
  have e := H.tdj h (by decide)
  unfold aLeast
  rw [if_pos (ok1_n h1 hm), nI_clamp (by omega), ← e, show min m (40 - 40) = 0 from by omega]; rfl
theorem RG.least_ok (H : RG G n ch row ev cr tr lw z) {m k : Nat} {b w : Int32} (h1 : 1 ≤ m) (hm : m ≤ 20) (hk : k = min m (40 - gTd G)) (h : (b, w) = LeR (fun i => mPop (bDI ch ev lw n (gTd G) (s3R row 0) i)) (gTd G) k) : b = aLeast (nI m) G := by
  unfold aLeast
  rw [if_pos (ok1_n h1 hm), nI_clamp (by omega), ← hk]
  have e : b = (LeR (fun i => mPop (bDI ch ev lw n (gTd G) (s3R row 0) i)) (gTd G) k).1 := congrArg Prod.fst h
  rw [e]
  have c := mLeast_cg (d := gTd G) k (f := fun i => mPop (bDI ch ev lw n (gTd G) (s3R row 0) i)) (g := fun i => mPop (gDI G i)) (fun i _ => by
    show mPop _ = mPop _
    rw [show bDI ch ev lw n (gTd G) (s3R row 0) i = gDI G i from H.di i])
  unfold LeR
  by_cases q : k = 0
  · rw [if_pos q, q]; rfl
  · rw [if_neg q, c]
/-! GOOD -/
def aGood (c : Int32) (G : MG) : Int32 := if okN c (gN G) then mGood (fun j => decide (¬ (gGoT G j).2.2 c.toNatClampNeg < gLw G 1)) (gTd G) (41 - gTd G) else -1
theorem RG.good_no (H : RG G n ch row ev cr tr lw z) {c : Int32} (h : ¬ okNR c n) : -1 = aGood c G := by
  have hn := H.n8
  unfold aGood
  rw [if_neg (fun q => h (by rw [H.2.1.1] at *; exact (okN_iff (by omega)).mpr q))]
theorem RG.go3 (H : RG G n ch row ev cr tr lw z) (i : Nat) : Ag3 n (mGo (xC ch 0) (xC ch 1) (xC ch 2) (xC ch 3) ev lw n (s3R row 0) (gTd G) i) (gGoT G i) := by
  obtain ⟨c0, c1, c2, c3, v1, v4, s⟩ := H.ag
  have e := mGo_cg (td := gTd G) c0 c1 c2 c3 v1 v4 s i
  have hn := H.2.1.1
  show Ag3 n _ (mGo _ _ _ _ _ _ (gN G) _ _ _)
  rw [← hn]; exact e
/-- whether AWAY is LOST or more behind i days -/
abbrev gdF (G : MG) (c : Nat) : Nat → Bool := fun j => decide (¬ (gGoT G j).2.2 c < gLw G 1)
theorem RG.good_is (H : RG G n ch row ev cr tr lw z) {c k : Nat} {v : Int32} (hc : c < n) (hk : gTd G + k ≤ 40) (h : GdR (gdF G c) (gTd G) k v) (hx : ¬ v < 0 ∨ gTd G + k = 40) : v = aGood (nI c) G := by
  have hn := H.n8
  unfold aGood
  rw [if_pos (show okN (nI c) (gN G) from by rw [← H.2.1.1]; exact okN_n hc (by omega)), nI_clamp (by omega)]
  rcases h with ⟨h1, h2⟩ | ⟨_, h1, h2, h3⟩
  · have e : gTd G + k = 40 := hx.resolve_left (fun q => q (by rw [h1]; decide))
    rw [mGood_no (f := gdF G c) (fun j hj => h2 j (by omega)), h1]
  · rw [mGood_yes (f := gdF G c) h2 h1 (by omega), h3]
theorem RG.gdf (H : RG G n ch row ev cr tr lw z) {X : MA} {c k p0 : Nat} (hc : c < n) (h : GoB ch X ev lw n p0 (gTd G) k (s3R row 0)) : gdF G c k = decide (¬ X (p0 + 17 + c) < lw 1) := by
  have e : X (p0 + 17 + c) = (gGoT G k).2.2 c := (h.1.2.2 c hc).trans ((H.go3 k).2.2 c hc)
  have el : lw 1 = gLw G 1 := H.2.2.2.2.2.2.2 1 (by decide)
  rw [e, el]
/-- what is known in the loop of good(): behind k days on the lent row -/
def GdX (G : MG) (n c : Nat) (ch row X ev lw : MA) (v : Int32) : Prop := ∃ k : Nat, (GoB ch X ev lw n 25 (gTd G) k (s3R row 0) ∧ gTd G + k ≤ 40) ∧ GdR (gdF G c) (gTd G) k v
theorem RG.gd_0 (H : RG G n ch row ev cr tr lw z) {L : MA} {c p : Nat} (hc : c < n) (hL : ∀ i : Nat, i < 25 → L (25 + i) = row i) (hp : p = 17 + c) (h : row p < lw 1) : GdX G n c ch row L ev lw (-3) := by
  refine ⟨0, ⟨GoB_0 H.n8 hL H.td.1 H.nn, H.td.2⟩, Or.inl ⟨rfl, fun j hj => ?_⟩⟩
  have e : j = 0 := by omega
  subst e
  have e1 : row (0 + 17 + c) = gAw G c := H.2.2.2.1.2.2 c hc
  have el : lw 1 = gLw G 1 := H.2.2.2.2.2.2.2 1 (by decide)
  show decide (¬ gAw G c < gLw G 1) = false
  rw [← e1, ← el, show 0 + 17 + c = p from by omega]
  exact decide_eq_false (fun q => q h)
theorem RG.gd_s (H : RG G n ch row ev cr tr lw z) {X Y : MA} {c p j : Nat} {v r : Int32} (hc : c < n) (h : GdX G n c ch row X ev lw v) (hv : v < 0) (hj : X 25 = nI j) (hj40 : j ≤ 40) (hb : ¬ 40 ≤ j) (Q : ∀ i : Nat, i < 40 → X 25 = nI i → r = mThere (xC ch 0) (xC ch 1) (xC ch 3) (xR X (25 + 1)) (xR X (25 + 9)) (xR X (25 + 17)) ev lw i n ∧ DayP ch X Y lw n 25 i r) (hp : p = 25 + 17 + c) : (Y p < lw 1 → GdX G n c ch row Y ev lw (-3)) ∧ (¬ Y p < lw 1 → ∀ e : Nat, Y 25 = nI e → GdX G n c ch row Y ev lw (nI e - 1)) := by
  obtain ⟨k, hk, hg⟩ := h
  obtain ⟨g1, _, _, _⟩ := go_b H.n8 hk hj hj40 hb Q
  have e := H.gdf hc g1.1
  rw [← hp] at e
  refine ⟨fun q => ⟨k + 1, g1, gd_n hg hv (by omega) (by rw [e]; exact decide_eq_false (fun w => w q))⟩, fun q i hi => ?_⟩
  have w := gd_y hg hv (by omega) (by rw [e]; exact decide_eq_true q)
  refine ⟨k + 1, g1, ?_⟩
  rw [← hi, g1.1.2.1]; exact w
theorem RG.gd_f (H : RG G n ch row ev cr tr lw z) {X : MA} {c j : Nat} {v : Int32} (hc : c < n) (h : GdX G n c ch row X ev lw v) (hx : ¬ v < 0 ∨ (X 25 = nI j ∧ j ≤ 40 ∧ 40 ≤ j)) : v = aGood (nI c) G := by
  obtain ⟨k, hk, hg⟩ := h
  refine H.good_is hc hk.2 hg (hx.imp id (fun q => ?_))
  have e : j = gTd G + k := (nI_eq (by omega) (by omega)).mp (q.1.symm.trans hk.1.2.1)
  omega
theorem RG.good_now (H : RG G n ch row ev cr tr lw z) {c p j : Nat} (hc : c < n) (hp : p = 17 + c) (h : ¬ row p < lw 1) (hj : row 0 = nI j) (hj40 : j ≤ 40) : nI j - 1 = aGood (nI c) G := by
  have hn := H.n8
  have ej := H.tdj hj hj40
  have e1 : row (0 + 17 + c) = gAw G c := H.2.2.2.1.2.2 c hc
  have el : lw 1 = gLw G 1 := H.2.2.2.2.2.2.2 1 (by decide)
  unfold aGood
  rw [if_pos (show okN (nI c) (gN G) from by rw [← H.2.1.1]; exact okN_n hc (by omega)), nI_clamp (by omega)]
  rw [mGood_yes (f := gdF G c) (k := 0) (fun j hj => absurd hj (Nat.not_lt_zero j)) (by
    show decide (¬ gAw G c < gLw G 1) = true
    rw [← e1, ← el, show 0 + 17 + c = p from by omega]
    exact decide_eq_true h) (by omega), ej]; rfl
end LE

/-! ROUND -/
theorem mBest_in {F : Nat → Int32} {k : Int32} : ∀ m : Nat, ∃ i : Nat, i ≤ m ∧ (mBest F k m).1 = nI i ∧ (mBest F k m).2 = F i
  | 0 => ⟨0, Nat.le_refl 0, rfl, rfl⟩
  | m + 1 => by
    obtain ⟨i, hi, e1, e2⟩ := mBest_in (F := F) (k := k) m
    unfold mBest
    split
    · exact ⟨m + 1, Nat.le_refl _, rfl, rfl⟩
    · exact ⟨i, by omega, e1, e2⟩
def RdR (F : Nat → Int32) (k : Int32) (j : Nat) (b w : Int32) : Prop := (j = 0 ∧ b = 0 ∧ w = -1) ∨ (1 ≤ j ∧ (b, w) = mBest F k (j - 1))
theorem n64 {j : Nat} (h : j < 256) : (nI j).toBitVec.toNat < 256 := by rw [pk_tn (by omega)]; exact h
theorem rd_b {F : Nat → Int32} {k b w : Int32} {j : Nat} (h : RdR F k j b w) (hj : j ≤ 64) : b.toBitVec.toNat < 256 := by
  rcases h with ⟨_, h2, _⟩ | ⟨h1, h2⟩
  · rw [h2]; decide
  · obtain ⟨i, hi, e, _⟩ := mBest_in (F := F) (k := k) (j - 1)
    rw [show b = (mBest F k (j - 1)).1 from congrArg Prod.fst h2, e]
    exact n64 (by omega)
theorem rd_y {F : Nat → Int32} {k b w x : Int32} {j : Nat} (h : RdR F k j b w) (hx : x = F j) (hk : ¬ k < mPop (nI j)) (hc : w < x ∨ (x = w ∧ ¬ mPop b ≤ mPop (nI j))) : RdR F k (j + 1) (nI j) x := by
  refine Or.inr ⟨by omega, ?_⟩
  rw [show j + 1 - 1 = j from rfl]
  rcases h with ⟨h1, h2, h3⟩ | ⟨h1, h2⟩
  · subst h1; rw [hx]; rfl
  · obtain ⟨i, rfl⟩ : ∃ i, j = i + 1 := ⟨j - 1, by omega⟩
    rw [show i + 1 - 1 = i from rfl] at h2
    have eb : b = (mBest F k i).1 := congrArg Prod.fst h2
    have ew : w = (mBest F k i).2 := congrArg Prod.snd h2
    unfold mBest
    rw [if_pos (by rw [← eb, ← ew, ← hx]; exact ⟨hk, hc⟩), hx]
theorem rd_n {F : Nat → Int32} {k b w x : Int32} {j : Nat} (h : RdR F k j b w) (hk : ¬ k < 1) (h0 : ¬ F 0 < 0) (hc : k < mPop (nI j) ∨ (x = F j ∧ ¬ w < x ∧ ¬ (x = w ∧ ¬ mPop b ≤ mPop (nI j)))) : RdR F k (j + 1) b w := by
  rcases h with ⟨h1, h2, h3⟩ | ⟨h1, h2⟩
  · exfalso
    subst h1
    rcases hc with q | ⟨q1, q2, _⟩
    · rw [show mPop (nI 0) = 0 from by decide] at q
      apply hk
      rw [Int32.lt_iff_toInt_lt] at q ⊢
      rw [show (0 : Int32).toInt = 0 from by decide] at q
      rw [show (1 : Int32).toInt = 1 from by decide]; omega
    · apply q2
      rw [q1, h3]
      rw [Int32.lt_iff_toInt_lt] at h0 ⊢
      rw [show (0 : Int32).toInt = 0 from by decide] at h0
      rw [show (-1 : Int32).toInt = -1 from by decide]; omega
  · refine Or.inr ⟨by omega, ?_⟩
    rw [show j + 1 - 1 = j from rfl]
    obtain ⟨i, rfl⟩ : ∃ i, j = i + 1 := ⟨j - 1, by omega⟩
    rw [show i + 1 - 1 = i from rfl] at h2
    have eb : b = (mBest F k i).1 := congrArg Prod.fst h2
    have ew : w = (mBest F k i).2 := congrArg Prod.snd h2
    unfold mBest
    rw [if_neg (by
      rw [← eb, ← ew]
      rintro ⟨q1, q2⟩
      rcases hc with z | ⟨z1, z2, z3⟩
      · exact q1 z
      · rw [← z1] at q2
        exact q2.elim z2 z3)]
    exact h2
/-- KNOCK behind knocks at a set of houses -/
theorem mKnS_at {ho lw kn : MA} {n c h : Nat} {v : Int32} (hc : c < n) (hh : ho c = nI h) (h6 : h < 6) : ∀ j : Nat, j ≤ 6 → mKnS ho lw v kn n j c = if h < j ∧ mBit v h = true then lw 0 else kn c
  | 0, _ => (if_neg (fun q => Nat.not_lt_zero h q.1)).symm
  | j + 1, hj => by
    have ih := mKnS_at (lw := lw) (kn := kn) (v := v) hc hh h6 j (by omega)
    unfold mKnS
    by_cases e : mBit v j = true
    · rw [if_pos e]
      unfold mKn1 mSpr
      by_cases q : j = h
      · subst q
        rw [if_pos ⟨hc, by show decide (ho c = nI j) = true; rw [hh]; exact decide_eq_true rfl⟩, if_pos ⟨by omega, e⟩]
      · rw [if_neg (fun w => q (by
          have := of_decide_eq_true w.2
          rw [hh] at this
          exact ((nI_eq (by omega) (by omega)).mp this).symm)), ih]
        by_cases z : h < j ∧ mBit v h = true
        · rw [if_pos z, if_pos ⟨by omega, z.2⟩]
        · rw [if_neg z, if_neg (fun w => z ⟨by omega, w.2⟩)]
    · rw [if_neg e, ih]
      by_cases z : h < j ∧ mBit v h = true
      · rw [if_pos z, if_pos ⟨by omega, z.2⟩]
      · rw [if_neg z, if_neg (fun w => by
          by_cases q : j = h
          · subst q; exact e w.2
          · exact z ⟨by omega, w.2⟩)]
theorem mSumI_nn {f : Nat → Int32} (hf : ∀ i, ∃ k : Nat, k ≤ 8 ∧ f i = nI k) : ∀ m : Nat, ∃ k : Nat, k ≤ 8 * m ∧ mSumI f m = nI k
  | 0 => ⟨0, by omega, rfl⟩
  | m + 1 => by
    obtain ⟨a, ha, ea⟩ := mSumI_nn hf m
    obtain ⟨b, hb, eb⟩ := hf m
    exact ⟨a + b, by omega, by show mSumI f m + f m = _; rw [ea, eb, nI_add]⟩
theorem gComes_nn {G : MG} (hn : gN G ≤ 8) (v : Int32) {m : Nat} (hm : m ≤ 20) : ¬ gComes G v m < 0 := by
  unfold gComes mComes
  obtain ⟨k, hk, e⟩ := mSumI_nn (f := fun i => mPop (mDI (gKd G) (gKa G) (gHo G) (gFa G) (gEv G) (gLw G) (gN G) (gSi G, mKnS (gHo G) (gLw G) v (gKn G) (gN G) 6, gAw G) (gTd G) i)) (fun i => pop_is (by
    unfold mDI mThere
    exact mBits_lt _ _ hn)) (min m (40 - gTd G))
  rw [e]
  exact nI_pos (by have : min m (40 - gTd G) ≤ m := Nat.min_le_left _ _; omega)
abbrev okRd (k m w : Int32) : Prop := (¬ k < 1 ∧ ¬ 3 < k) ∧ ok20 m ∧ ¬ w < 0 ∧ ¬ 1 < w
def aRound (k m w : Int32) (G : MG) : Int32 := if okRd k m w then (if w = 0 then (mBest (fun j => gComes G (nI j) m.toNatClampNeg) k 63).1 else gComes G (mBest (fun j => gComes G (nI j) m.toNatClampNeg) k 63).1 m.toNatClampNeg) else -1
section RND
variable {G : MG} {n : Nat} {ch row ev cr tr lw : MA} {z : Int32}
theorem RG.rd_sum (H : RG G n ch row ev cr tr lw z) {R17 R28 R34 : MA} {s m : Nat} {r : Int32} (hs : s < 64) (h17 : ∀ j : Nat, j < 25 → R17 j = row j) (hL : ∀ i : Nat, i < 25 → R28 (25 + i) = R17 i) (hK : KnB ch lw (nI s) R28 R34 25 n) (hC : ∀ d : Nat, d ≤ 40 → R34 25 = nI d → NNr R34 lw n 25 → r = mComes (xC ch 0) (xC ch 1) (xC ch 2) (xC ch 3) ev lw n (s3R R34 25) d m) : r = gComes G (nI s) m := by
  have hn8 := H.n8
  have hL2 : ∀ i : Nat, i < 25 → R28 (25 + i) = row i := fun i hi => (hL i hi).trans (h17 i hi)
  have nn := H.nn
  have e0 : R34 25 = nI (gTd G) := by
    rw [hK.2 25 (by omega)]
    exact (hL2 0 (by decide)).trans H.td.1
  have es : ∀ c : Nat, c < n → R34 (25 + 1 + c) = row (0 + 1 + c) := fun c hc => by
    rw [hK.2 _ (by omega), show 25 + 1 + c = 25 + (1 + c) from by omega, hL2 _ (by omega), show 0 + 1 + c = 1 + c from by omega]
  have ea : ∀ c : Nat, c < n → R34 (25 + 17 + c) = row (0 + 17 + c) := fun c hc => by
    rw [hK.2 _ (by omega), show 25 + 17 + c = 25 + (17 + c) from by omega, hL2 _ (by omega), show 0 + 17 + c = 17 + c from by omega]
  have ek : ∀ c : Nat, c < n → R34 (25 + 9 + c) = if kB (nI s) ch c = true then lw 0 else row (0 + 9 + c) := fun c hc => by
    rw [hK.1 c (by omega), show 25 + 9 + c = 25 + (9 + c) from by omega, hL2 _ (by omega), show 0 + 9 + c = 9 + c from by omega]
    by_cases q : kB (nI s) ch c = true
    · rw [if_pos ⟨hc, q⟩, if_pos q]
    · rw [if_neg (fun w => q w.2), if_neg q]
  have hN : NNr R34 lw n 25 := ⟨fun c hc => by
    rw [es c hc, ek c hc]
    refine ⟨(nn.1 c hc).1, ?_⟩
    split
    · exact nn.2.2
    · exact (nn.1 c hc).2, nn.2⟩
  rw [hC (gTd G) H.td.2 e0 hN]
  refine H.comes ⟨fun c hc => (es c hc).trans (H.2.2.2.1.1 c hc), fun c hc => ?_, fun c hc => (ea c hc).trans (H.2.2.2.1.2.2 c hc)⟩ m
  have hg := H.2.1.1
  obtain ⟨h, hh, eh⟩ := (H.1.2.1 c (hg ▸ hc)).1.2
  show R34 (25 + 9 + c) = mKnS _ _ _ _ _ 6 c
  rw [ek c hc, mKnS_at (by rw [← hg]; exact hc) eh hh 6 (Nat.le_refl 6)]
  have ec : ch (4 * c + 2) = gHo G c := H.2.2.1.2.2.1 c hc
  have el : lw 0 = gLw G 0 := H.2.2.2.2.2.2.2 0 (by decide)
  have eb : kB (nI s) ch c = mBit (nI s) h := by
    unfold kB
    rw [ec, eh, mBit_bt (by omega)]
    have := bit1_bt (v := nI s) (k := h) (by omega)
    by_cases e : bt (nI s) h = true
    · rw [e]; exact decide_eq_true (by rw [this]; exact e)
    · rw [Bool.eq_false_iff.mpr e]; exact decide_eq_false (by rw [this]; exact e)
  rw [eb, el, show row (0 + 9 + c) = gKn G c from H.2.2.2.1.2.1 c hc]
  by_cases q : mBit (nI s) h = true
  · rw [if_pos q, if_pos ⟨hh, q⟩]
  · rw [if_neg q, if_neg (fun w => q w.2)]
theorem RG.round_no (_H : RG G n ch row ev cr tr lw z) {k m w : Int32} (h : ¬ (¬ k < 1 ∧ ¬ 3 < k) ∨ ¬ ok20 m ∨ ¬ (¬ w < 0 ∧ ¬ 1 < w)) : -1 = aRound k m w G := by
  unfold aRound
  rw [if_neg (fun q => h.elim (fun w => w q.1) (fun w => w.elim (fun w => w q.2.1) (fun w => w q.2.2)))]
theorem RG.round_ok (H : RG G n ch row ev cr tr lw z) {k m j : Nat} {b w x r : Int32} (hk : ¬ nI k < 1 ∧ ¬ 3 < nI k) (hm : m ≤ 20) (hx : ¬ x < 0 ∧ ¬ 1 < x) (hj : j = 64) (h : RdR (fun j => gComes G (nI j) m) (nI k) j b w) (hr : (x = 0 ∧ r = b) ∨ (¬ x = 0 ∧ r = w)) : r = aRound (nI k) (nI m) x G := by
  unfold aRound
  rw [if_pos ⟨hk, ok20_n hm, hx⟩, nI_clamp (by omega)]
  rcases h with ⟨q, _⟩ | ⟨_, h2⟩
  · omega
  · rw [hj] at h2
    rcases hr with ⟨h3, h4⟩ | ⟨h3, h4⟩
    · rw [if_pos h3, h4]; exact congrArg Prod.fst h2
    · rw [if_neg h3, h4]
      obtain ⟨i, _, e1, e2⟩ := mBest_in (F := fun j => gComes G (nI j) m) (k := nI k) 63
      rw [e1]
      exact (congrArg Prod.snd h2).trans e2
end RND

/-! FITS -/
theorem df_t {cr ev : MA} {c d : Nat} {far lost kd a : Int32} (h : (mBit (cr d) c = true ∧ ¬ mAway kd a far (nI d) (ev d) false false (mRun (fun d => mBit (cr d) c) d) lost = true) ∨ (mBit (cr d) c = false ∧ (mAway kd a far (nI d) (ev d) false false (mRun (fun d => mBit (cr d) c) d) lost = true ∨ kd = 2 ∨ kd = 5))) : mDayFits cr ev c far lost kd a d = true := by
  unfold mDayFits
  rcases h with ⟨h1, h2⟩ | ⟨h1, h2⟩
  · rw [h1, Bool.eq_false_iff.mpr h2]; rfl
  · rw [h1]
    rcases h2 with h2 | h2 | h2
    · rw [h2]; rfl
    · rw [decide_eq_true h2]; simp
    · rw [decide_eq_true h2]; simp
theorem df_f {cr ev : MA} {c d : Nat} {far lost kd a : Int32} (h : (mBit (cr d) c = true ∧ mAway kd a far (nI d) (ev d) false false (mRun (fun d => mBit (cr d) c) d) lost = true) ∨ (mBit (cr d) c = false ∧ ¬ mAway kd a far (nI d) (ev d) false false (mRun (fun d => mBit (cr d) c) d) lost = true ∧ ¬ kd = 2 ∧ ¬ kd = 5)) : mDayFits cr ev c far lost kd a d = false := by
  unfold mDayFits
  rcases h with ⟨h1, h2⟩ | ⟨h1, h2, h3, h4⟩
  · rw [h1, h2]; rfl
  · rw [h1, Bool.eq_false_iff.mpr h2, decide_eq_false h3, decide_eq_false h4]; rfl
/-- the loop of isOf -/
def IsO (cr ev : MA) (c : Nat) (far lost kd a : Int32) (k : Nat) (v : Int32) : Prop := v = mRun (fun d => mBit (cr d) c) k ∧ mAll (mDayFits cr ev c far lost kd a) k = true
theorem io_y {cr ev : MA} {c k : Nat} {far lost kd a v : Int32} (hc : c < 8) (h : IsO cr ev c far lost kd a k v) (hb : (cr k >>> (nI c &&& 31)) &&& 1 = 1) (hs : ¬ mAway kd a far (nI k) (ev k) false false v lost = true) : IsO cr ev c far lost kd a (k + 1) 0 := by
  have e : mBit (cr k) c = true := by rw [mBit_bt hc, ← bit1_bt hc]; exact hb
  refine ⟨?_, ?_⟩
  · show (0 : Int32) = if mBit (cr k) c = true then 0 else _
    rw [if_pos e]
  · show (mAll _ k && _) = true
    rw [h.2, df_t (Or.inl ⟨e, by rw [← h.1]; exact hs⟩)]; rfl
theorem io_n {cr ev : MA} {c k : Nat} {far lost kd a v : Int32} (hc : c < 8) (h : IsO cr ev c far lost kd a k v) (hb : ¬ (cr k >>> (nI c &&& 31)) &&& 1 = 1) (hs : mAway kd a far (nI k) (ev k) false false v lost = true ∨ kd = 2 ∨ kd = 5) : IsO cr ev c far lost kd a (k + 1) (v + 1) := by
  have e : ¬ mBit (cr k) c = true := by rw [mBit_bt hc, ← bit1_bt hc]; exact hb
  refine ⟨?_, ?_⟩
  · show v + 1 = if mBit (cr k) c = true then 0 else mRun (fun d => mBit (cr d) c) k + 1
    rw [if_neg e, ← h.1]
  · show (mAll _ k && _) = true
    rw [h.2, df_t (Or.inr ⟨Bool.eq_false_iff.mpr e, by rw [← h.1]; exact hs⟩)]; rfl
theorem io_f {cr ev : MA} {c k d : Nat} {far lost kd a v : Int32} (hc : c < 8) (h : IsO cr ev c far lost kd a k v) (hk : k < d) (hs : ((cr k >>> (nI c &&& 31)) &&& 1 = 1 ∧ mAway kd a far (nI k) (ev k) false false v lost = true) ∨ (¬ (cr k >>> (nI c &&& 31)) &&& 1 = 1 ∧ ¬ mAway kd a far (nI k) (ev k) false false v lost = true ∧ ¬ kd = 2 ∧ ¬ kd = 5)) : (0 : Int32) = if mOfKind cr ev c far lost kd a d = true then 1 else 0 := by
  have e : mDayFits cr ev c far lost kd a k = false := by
    apply df_f
    rcases hs with ⟨h1, h2⟩ | ⟨h1, h2⟩
    · exact Or.inl ⟨by rw [mBit_bt hc, ← bit1_bt hc]; exact h1, by rw [← h.1]; exact h2⟩
    · exact Or.inr ⟨Bool.eq_false_iff.mpr (by rw [Ne, mBit_bt hc, ← bit1_bt hc]; exact h1), by rw [← h.1]; exact h2⟩
  unfold mOfKind
  rw [mAll_no e d hk]; rfl
theorem io_e {cr ev : MA} {c k d : Nat} {far lost kd a v : Int32} (h : IsO cr ev c far lost kd a k v) (hk : k = d) : (1 : Int32) = if mOfKind cr ev c far lost kd a d = true then 1 else 0 := by
  subst hk
  unfold mOfKind
  rw [h.2]; rfl
theorem kin_y {f : Nat → Nat → Bool} {k j : Nat} {acc v : Int32} (h : v = mKin f k acc j) (hf : f k j = true) : v ||| ((1 : Int32) <<< (nI k &&& 31)) = mKin f k acc (j + 1) := by
  show _ = if f k j = true then _ else _
  rw [if_pos hf, h]
theorem kin_n {f : Nat → Nat → Bool} {k j : Nat} {acc v : Int32} (h : v = mKin f k acc j) (hf : ¬ f k j = true) : v ||| 0 = mKin f k acc (j + 1) := by
  show _ = if f k j = true then _ else _
  rw [if_neg hf, h, Int32.or_zero]
theorem kin_e {f : Nat → Nat → Bool} {k j : Nat} {v : Int32} (h : v = mKin f k (mKinds f k) j) (hj : j = 10) : v = mKinds f (k + 1) := by
  subst hj; exact h
theorem is1 {x : Int32} {b : Bool} (h : x = if b = true then 1 else 0) (e : ¬ x = 0) : b = true := by
  cases b
  · exact absurd h e
  · rfl
theorem is0 {x : Int32} {b : Bool} (h : x = if b = true then 1 else 0) (e : x = 0) : ¬ b = true := fun q => by
  rw [h, if_pos q] at e
  exact absurd e (by decide)
def aFits (c : Int32) (G : MG) : Int32 := if okN c (gN G) then mKinds (fun x j => mOfKind (gCr G) (gEv G) c.toNatClampNeg (gFa G c.toNatClampNeg) (gLw G 1) (nI x) (nI j) (gTd G)) 6 else -1
theorem mKin_cg {f g : Nat → Nat → Bool} (h : ∀ a b, f a b = g a b) (k : Nat) (acc : Int32) : ∀ j, mKin f k acc j = mKin g k acc j
  | 0 => rfl
  | j + 1 => by
    unfold mKin
    rw [h k j, mKin_cg h k acc j]
theorem mKinds_cg {f g : Nat → Nat → Bool} (h : ∀ a b, f a b = g a b) : ∀ k, mKinds f k = mKinds g k
  | 0 => rfl
  | k + 1 => by
    unfold mKinds
    rw [mKinds_cg h k, mKin_cg h]
theorem mAll_cg {f g : Nat → Bool} : ∀ k, (∀ i, i < k → f i = g i) → mAll f k = mAll g k
  | 0, _ => rfl
  | k + 1, h => by
    unfold mAll
    rw [h k (by omega), mAll_cg k (fun i hi => h i (by omega))]
theorem mOfKind_cg {cr cr2 ev ev2 : MA} {c d : Nat} {far far2 lost lost2 kd a : Int32} (hd : d ≤ 40) (h1 : Ag 40 cr cr2) (h2 : Ag 40 ev ev2) (h3 : far = far2) (h4 : lost = lost2) : mOfKind cr ev c far lost kd a d = mOfKind cr2 ev2 c far2 lost2 kd a d := by
  subst h3; subst h4
  unfold mOfKind
  refine mAll_cg d (fun i hi => ?_)
  unfold mDayFits
  rw [h1 i (by omega), h2 i (by omega), mRun_cg i (fun j hj => by show mBit (cr j) c = mBit (cr2 j) c; rw [h1 j (by omega)])]
section FIT
variable {G : MG} {n : Nat} {ch row ev cr tr lw : MA} {z : Int32}
theorem RG.fits_no (H : RG G n ch row ev cr tr lw z) {c : Int32} (h : ¬ okNR c n) : -1 = aFits c G := by
  have hn := H.n8
  unfold aFits
  rw [if_neg (fun q => h (by rw [H.2.1.1] at *; exact (okN_iff (by omega)).mpr q))]
theorem RG.fits_ok (H : RG G n ch row ev cr tr lw z) {c d k : Nat} {v : Int32} (hc : c < n) (hd : row 0 = nI d) (hd40 : d ≤ 40) (hk : k = 6) (h : v = mKinds (fun x j => mOfKind cr ev c (ch (4 * c + 3)) (lw 1) (nI x) (nI j) d) k) : v = aFits (nI c) G := by
  have hn := H.n8
  have ed := H.tdj hd hd40
  unfold aFits
  rw [if_pos (show okN (nI c) (gN G) from by rw [← H.2.1.1]; exact okN_n hc (by omega)), nI_clamp (by omega), h, hk, ed]
  exact mKinds_cg (fun a b => mOfKind_cg H.1.1.2 H.2.2.2.2.2.1 H.2.2.2.2.1 (H.2.2.1.2.2.2 c hc) (H.2.2.2.2.2.2.2 1 (by decide))) 6
end FIT
theorem cg_fits_no {G : MG} {c : Int32} (e : ¬ okN c (gN G)) : -1 = aFits c G := by unfold aFits; rw [if_neg e]
theorem cg_fits_ok {G : MG} {c : Nat} (hc : c < gN G) (hn : gN G ≤ 8) : mKinds (fun x j => mOfKind (gCr G) (gEv G) c (gFa G c) (gLw G 1) (nI x) (nI j) (gTd G)) 6 = aFits (nI c) G := by
  unfold aFits
  rw [if_pos (okN_n hc (by omega)), nI_clamp (by omega)]

