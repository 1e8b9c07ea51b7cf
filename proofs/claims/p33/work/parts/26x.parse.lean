/-! the text of a school: places, tokens, items (model of both readers; t bytes T) -/
def mByte (t : Nat) (tp : Nat → Int32) (k : Nat) : Int32 := if k < t then tp k else -1
theorem mByte_in {t : Nat} {tp : Nat → Int32} {k : Nat} (h : ¬ mByte t tp k = -1) : k < t := by
  by_cases e : k < t
  · exact e
  · exact absurd (if_neg e) h
theorem mByte_lt {t : Nat} {T : Nat → Int32} {k : Nat} (h : k < t) : mByte t T k = T k := if_pos h
theorem mByte_ge {t : Nat} {T : Nat → Int32} {k : Nat} (h : ¬ k < t) : mByte t T k = -1 := if_neg h
def mBl (t : Nat) (T : Nat → Int32) (k : Nat) : Bool := decide (mByte t T k = 32)
def mLt (t : Nat) (T : Nat → Int32) (k : Nat) : Bool := decide (¬ mByte t T k < 97 ∧ ¬ 122 < mByte t T k)
def mDg (t : Nat) (T : Nat → Int32) (k : Nat) : Bool := decide (¬ mByte t T k < 48 ∧ ¬ 57 < mByte t T k)
theorem mBl_ge {t : Nat} {T : Nat → Int32} {k : Nat} (h : ¬ k < t) : mBl t T k = false := by unfold mBl; rw [mByte_ge h]; decide
theorem mLt_ge {t : Nat} {T : Nat → Int32} {k : Nat} (h : ¬ k < t) : mLt t T k = false := by unfold mLt; rw [mByte_ge h]; decide
theorem mDg_ge {t : Nat} {T : Nat → Int32} {k : Nat} (h : ¬ k < t) : mDg t T k = false := by unfold mDg; rw [mByte_ge h]; decide
theorem mBl_in {t : Nat} {T : Nat → Int32} {k : Nat} (h : mBl t T k = true) : k < t := by
  by_cases e : k < t
  · exact e
  · rw [mBl_ge e] at h; cases h
theorem mLt_in {t : Nat} {T : Nat → Int32} {k : Nat} (h : mLt t T k = true) : k < t := by
  by_cases e : k < t
  · exact e
  · rw [mLt_ge e] at h; cases h
theorem mDg_in {t : Nat} {T : Nat → Int32} {k : Nat} (h : mDg t T k = true) : k < t := by
  by_cases e : k < t
  · exact e
  · rw [mDg_ge e] at h; cases h
/-- the first place from p on at which f doesn't hold -/
def mRunE (f : Nat → Bool) : Nat → Nat → Nat
  | 0, p => p
  | k + 1, p => if f p = true then mRunE f k (p + 1) else p
def mEn (f : Nat → Bool) (t p : Nat) : Nat := mRunE f (t - p) p
theorem mEn_s {f : Nat → Bool} {t p : Nat} (hp : p < t) (h : f p = true) : mEn f t p = mEn f t (p + 1) := by
  unfold mEn
  rw [show t - p = (t - (p + 1)) + 1 from by omega]
  show (if f p = true then _ else _) = _
  rw [if_pos h]
theorem mEn_x {f : Nat → Bool} {t p : Nat} (h : f p = false) : mEn f t p = p := by
  unfold mEn
  cases t - p with
  | zero => rfl
  | succ k =>
    show (if f p = true then _ else _) = _
    rw [if_neg (by rw [h]; decide)]
theorem mRunE_le (f : Nat → Bool) : ∀ k p : Nat, p ≤ mRunE f k p ∧ mRunE f k p ≤ p + k
  | 0, p => ⟨Nat.le_refl _, Nat.le_refl _⟩
  | k + 1, p => by
    have h := mRunE_le f k (p + 1)
    unfold mRunE
    split <;> omega
theorem mEn_ge (f : Nat → Bool) (t p : Nat) : p ≤ mEn f t p := (mRunE_le f _ p).1
theorem mEn_le {f : Nat → Bool} {t p : Nat} (h : p ≤ t) : mEn f t p ≤ t := by
  have h1 := (mRunE_le f (t - p) p).2
  unfold mEn; omega
theorem mRunE_stop {f : Nat → Bool} {t : Nat} (ht : f t = false) : ∀ k p : Nat, p + k = t → f (mRunE f k p) = false
  | 0, p, h => by
    have e : p = t := by omega
    show f p = false
    rw [e]; exact ht
  | k + 1, p, h => by
    unfold mRunE
    by_cases e : f p = true
    · rw [if_pos e]; exact mRunE_stop ht k (p + 1) (by omega)
    · rw [if_neg e]; exact Bool.eq_false_iff.mpr e
theorem mEn_stop {f : Nat → Bool} {t p : Nat} (ht : f t = false) (h : p ≤ t) : f (mEn f t p) = false := mRunE_stop ht _ _ (by omega)
theorem mRunE_all {f : Nat → Bool} : ∀ k p : Nat, ∀ i, p ≤ i → i < mRunE f k p → f i = true
  | 0, p, i, h1, h2 => by
    have h3 : i < p := h2
    omega
  | k + 1, p, i, h1, h2 => by
    unfold mRunE at h2
    by_cases e : f p = true
    · rw [if_pos e] at h2
      by_cases e2 : i = p
      · rw [e2]; exact e
      · exact mRunE_all k (p + 1) i (by omega) h2
    · rw [if_neg e] at h2; omega
theorem mEn_all {f : Nat → Bool} {t p i : Nat} (h1 : p ≤ i) (h2 : i < mEn f t p) : f i = true := mRunE_all _ _ i h1 h2
def mSk (t : Nat) (T : Nat → Int32) (p : Nat) : Nat := mEn (mBl t T) t p
def mLe (t : Nat) (T : Nat → Int32) (p : Nat) : Nat := mEn (mLt t T) t p
def mDe (t : Nat) (T : Nat → Int32) (p : Nat) : Nat := mEn (mDg t T) t p
theorem mSk_s {t : Nat} {T : Nat → Int32} {p : Nat} (hp : p < t) (h : T p = 32) : mSk t T p = mSk t T (p + 1) := mEn_s hp (by unfold mBl; rw [mByte_lt hp, h]; decide)
theorem mSk_x {t : Nat} {T : Nat → Int32} {p : Nat} (h : ¬ p < t ∨ ¬ T p = 32) : mSk t T p = p := mEn_x (by
  by_cases e : p < t
  · unfold mBl; rw [mByte_lt e]; exact decide_eq_false (h.resolve_left (fun q => q e))
  · exact mBl_ge e)
theorem mSk_ge (t : Nat) (T : Nat → Int32) (p : Nat) : p ≤ mSk t T p := mEn_ge _ _ _
theorem mSk_le {t : Nat} {T : Nat → Int32} {p : Nat} (h : p ≤ t) : mSk t T p ≤ t := mEn_le h
theorem mSk_stop {t : Nat} {T : Nat → Int32} {p : Nat} (h : p ≤ t) : mBl t T (mSk t T p) = false := mEn_stop (mBl_ge (by omega)) h
theorem mSk_sk {t : Nat} {T : Nat → Int32} {p : Nat} (h : p ≤ t) : mSk t T (mSk t T p) = mSk t T p := mEn_x (mSk_stop h)
theorem mLe_ge (t : Nat) (T : Nat → Int32) (p : Nat) : p ≤ mLe t T p := mEn_ge _ _ _
theorem mLe_le {t : Nat} {T : Nat → Int32} {p : Nat} (h : p ≤ t) : mLe t T p ≤ t := mEn_le h
theorem mDe_ge (t : Nat) (T : Nat → Int32) (p : Nat) : p ≤ mDe t T p := mEn_ge _ _ _
theorem mDe_le {t : Nat} {T : Nat → Int32} {p : Nat} (h : p ≤ t) : mDe t T p ≤ t := mEn_le h
theorem mLe_s {t : Nat} {T : Nat → Int32} {p : Nat} (hp : p < t) (h : ¬ T p < 97 ∧ ¬ 122 < T p) : mLe t T p = mLe t T (p + 1) := mEn_s hp (by unfold mLt; rw [mByte_lt hp]; exact decide_eq_true h)
theorem mLe_x {t : Nat} {T : Nat → Int32} {p : Nat} (h : ¬ p < t ∨ ¬ (¬ T p < 97 ∧ ¬ 122 < T p)) : mLe t T p = p := mEn_x (by
  by_cases e : p < t
  · unfold mLt; rw [mByte_lt e]; exact decide_eq_false (h.resolve_left (fun q => q e))
  · exact mLt_ge e)
theorem mDe_s {t : Nat} {T : Nat → Int32} {p : Nat} (hp : p < t) (h : ¬ T p < 48 ∧ ¬ 57 < T p) : mDe t T p = mDe t T (p + 1) := mEn_s hp (by unfold mDg; rw [mByte_lt hp]; exact decide_eq_true h)
theorem mDe_x {t : Nat} {T : Nat → Int32} {p : Nat} (h : ¬ p < t ∨ ¬ (¬ T p < 48 ∧ ¬ 57 < T p)) : mDe t T p = p := mEn_x (by
  by_cases e : p < t
  · unfold mDg; rw [mByte_lt e]; exact decide_eq_false (h.resolve_left (fun q => q e))
  · exact mDg_ge e)
theorem mLe_0 {t : Nat} {T : Nat → Int32} {p : Nat} (h : mLt t T p = false) : mLe t T p = p := mEn_x h
theorem mDe_0 {t : Nat} {T : Nat → Int32} {p : Nat} (h : mDg t T p = false) : mDe t T p = p := mEn_x h
theorem mLe_1 {t : Nat} {T : Nat → Int32} {p : Nat} (h : mLt t T p = true) : p < mLe t T p := by
  unfold mLe; rw [mEn_s (mLt_in h) h]; exact mEn_ge _ _ _
theorem mDe_1 {t : Nat} {T : Nat → Int32} {p : Nat} (h : mDg t T p = true) : p < mDe t T p := by
  unfold mDe; rw [mEn_s (mDg_in h) h]; exact mEn_ge _ _ _
/-- the number told by the first k digits from b on -/
def mVal (T : Nat → Int32) (b : Nat) : Nat → Int32
  | 0 => 0
  | k + 1 => mVal T b k * 10 + (T (b + k) - 48)
def mV (t : Nat) (T : Nat → Int32) (b : Nat) : Int32 := mVal T b (mDe t T b - b)
/-- where the token at b ends; where the next begins -/
def mTe (t : Nat) (T : Nat → Int32) (b : Nat) : Nat := if mLt t T b = true then mLe t T b else if mDg t T b = true then mDe t T b else if b < t then b + 1 else b
def mNx (t : Nat) (T : Nat → Int32) (b : Nat) : Nat := mSk t T (mTe t T b)
theorem mTe_ge (t : Nat) (T : Nat → Int32) (b : Nat) : b ≤ mTe t T b := by
  have h1 := mLe_ge t T b
  have h2 := mDe_ge t T b
  unfold mTe; split <;> (try split) <;> (try split) <;> omega
theorem mTe_gt {t : Nat} {T : Nat → Int32} {b : Nat} (h : b < t) : b < mTe t T b := by
  unfold mTe
  split
  · exact mLe_1 (by assumption)
  · split
    · exact mDe_1 (by assumption)
    · first | omega | (rw [if_pos h]; omega)
theorem mTe_le {t : Nat} {T : Nat → Int32} {b : Nat} (h : b ≤ t) : mTe t T b ≤ t := by
  have h1 := mLe_le (T := T) h
  have h2 := mDe_le (T := T) h
  unfold mTe; split <;> (try split) <;> (try split) <;> omega
theorem mNx_le {t : Nat} {T : Nat → Int32} {b : Nat} (h : b ≤ t) : mNx t T b ≤ t := mSk_le (mTe_le h)
theorem mNx_gt {t : Nat} {T : Nat → Int32} {b : Nat} (h : b < t) : b < mNx t T b := Nat.lt_of_lt_of_le (mTe_gt h) (mSk_ge _ _ _)
theorem mNx_sk {t : Nat} {T : Nat → Int32} {b : Nat} (h : b ≤ t) : mSk t T (mNx t T b) = mNx t T b := mSk_sk (mTe_le h)
def mNok (t : Nat) (T : Nat → Int32) (lo hi : Int32) (b : Nat) : Bool := mDg t T b && decide (mDe t T b ≤ b + 2) && decide (¬ mV t T b < lo ∧ ¬ hi < mV t T b)
abbrev MP := Nat × Bool
def mNum (t : Nat) (T : Nat → Int32) (lo hi : Int32) (s : MP) : MP := if s.2 = true ∧ mNok t T lo hi s.1 = true then (mNx t T s.1, true) else (s.1, false)
/-- the letters of word i -/
def chS (i k : Nat) : Int32 := (((bytS.getD i []).getD k 0 &&& 255).toUInt32 % 65536).toInt32
def mIsW (T : Nat → Int32) (b e w : Nat) : Bool := decide (e = b + lenS.getD w 0) && mAll (fun i => decide (T (b + i) = chS w i)) (lenS.getD w 0)
def mFw (f : Nat → Bool) : Nat → Int32
  | 0 => -1
  | k + 1 => if mFw f k = -1 then (if f k = true then nI k else -1) else mFw f k
def mWd (t : Nat) (T : Nat → Int32) (b : Nat) : Int32 := mFw (mIsW T b (mLe t T b)) 13
def mWrd (t : Nat) (T : Nat → Int32) (w : Nat) (s : MP) : MP := if s.2 = true ∧ mWd t T s.1 = nI w then (mNx t T s.1, true) else (s.1, false)
def mSem (t : Nat) (T : Nat → Int32) (s : MP) : MP := if s.2 = true ∧ mByte t T s.1 = 59 then (mNx t T s.1, true) else (s.1, false)
def mFar (t : Nat) (T : Nat → Int32) (s : MP) : MP := if mLt t T s.1 = true then mNum t T 0 9 (mWrd t T 7 s) else s
theorem mI_ne {k : Nat} (h : k < 2 ^ 31) : ¬ nI k = -1 := fun e => by
  have h1 := congrArg Int32.toInt e
  rw [nI_toInt h, show (-1 : Int32).toInt = -1 from by decide] at h1; omega
theorem mFw_at {f : Nat → Bool} {k : Nat} (hk : k < 100) (h : mFw f k = -1) (hf : f k = true) : ∀ m, k < m → mFw f m = nI k
  | 0, hm => absurd hm (Nat.not_lt_zero k)
  | m + 1, hm => by
    unfold mFw
    by_cases e : k = m
    · subst e; rw [if_pos h, if_pos hf]
    · rw [mFw_at hk h hf m (by omega), if_neg (mI_ne (by omega))]
theorem mFw_s {f : Nat → Bool} {k : Nat} (h : mFw f k = -1) (hf : f k = false) : mFw f (k + 1) = -1 := by
  unfold mFw; rw [if_pos h, if_neg (by rw [hf]; decide)]
theorem mFw_in {f : Nat → Bool} {w : Nat} (hw : w < 100) : ∀ m, m < 100 → mFw f m = nI w → f w = true ∧ w < m
  | 0, _, h => absurd h.symm (mI_ne (by omega))
  | m + 1, hm, h => by
    unfold mFw at h
    by_cases e : mFw f m = -1
    · rw [if_pos e] at h
      by_cases e2 : f m = true
      · rw [if_pos e2] at h
        have e3 : m = w := (nI_eq (by omega) (by omega)).mp h
        subst e3; exact ⟨e2, by omega⟩
      · rw [if_neg e2] at h; exact absurd h.symm (mI_ne (by omega))
    · rw [if_neg e] at h
      have h2 := mFw_in hw m (by omega) h
      exact ⟨h2.1, by omega⟩
theorem mFw_range (f : Nat → Bool) : ∀ m, mFw f m = -1 ∨ ∃ w, w < m ∧ mFw f m = nI w
  | 0 => Or.inl rfl
  | m + 1 => by
    rcases mFw_range f m with h | ⟨w, h1, h2⟩
    · unfold mFw; rw [if_pos h]
      by_cases e : f m = true
      · rw [if_pos e]; exact Or.inr ⟨m, by omega, rfl⟩
      · rw [if_neg e]; exact Or.inl rfl
    · by_cases e : mFw f m = -1
      · unfold mFw; rw [if_pos e]
        by_cases e : f m = true
        · rw [if_pos e]; exact Or.inr ⟨m, by omega, rfl⟩
        · rw [if_neg e]; exact Or.inl rfl
      · unfold mFw; rw [if_neg e]; exact Or.inr ⟨w, by omega, h2⟩
theorem mAll_is {ok : Nat → Bool} : ∀ {n : Nat}, mAll ok n = true → ∀ i, i < n → ok i = true
  | 0, _, i, hi => absurd hi (Nat.not_lt_zero i)
  | n + 1, h, i, hi => by
    unfold mAll at h
    rw [Bool.and_eq_true] at h
    by_cases e : i = n
    · rw [e]; exact h.2
    · exact mAll_is h.1 i (by omega)
theorem mAll_of {ok : Nat → Bool} : ∀ {n : Nat}, (∀ i, i < n → ok i = true) → mAll ok n = true
  | 0, _ => rfl
  | n + 1, h => by
    unfold mAll
    rw [mAll_of (fun i hi => h i (by omega)), h n (by omega)]; rfl
theorem mWord_ne : ∀ w, w < 13 → ∀ v, v < 13 → lenS.getD w 0 = lenS.getD v 0 → (∀ i, i < lenS.getD w 0 → chS w i = chS v i) → w = v := by decide +kernel
theorem mIsW_un {T : Nat → Int32} {b e w v : Nat} (hw : w < 13) (hv : v < 13) (h1 : mIsW T b e w = true) (h2 : mIsW T b e v = true) : w = v := by
  unfold mIsW at h1 h2
  rw [Bool.and_eq_true] at h1 h2
  have a1 := of_decide_eq_true h1.1
  have a2 := of_decide_eq_true h2.1
  have e1 : lenS.getD w 0 = lenS.getD v 0 := by omega
  refine mWord_ne w hw v hv e1 (fun i hi => ?_)
  have b1 := of_decide_eq_true (mAll_is h1.2 i hi)
  have b2 := of_decide_eq_true (mAll_is h2.2 i (by omega))
  exact b1.symm.trans b2
theorem mWd_iff {t : Nat} {T : Nat → Int32} {b w : Nat} (hw : w < 13) : mWd t T b = nI w ↔ mIsW T b (mLe t T b) w = true := by
  refine ⟨fun h => (mFw_in (by omega) 13 (by omega) h).1, fun h => ?_⟩
  rcases mFw_range (mIsW T b (mLe t T b)) 13 with h1 | ⟨v, h1, h2⟩
  · exfalso
    have q : ∀ m, m ≤ 13 → mFw (mIsW T b (mLe t T b)) m = -1 := by
      intro m hm
      rcases mFw_range (mIsW T b (mLe t T b)) m with h3 | ⟨v, h3, h4⟩
      · exact h3
      · exfalso
        have h5 := mFw_in (by omega) m (by omega) h4
        have h7 : ∀ d, m + d ≤ 13 → mFw (mIsW T b (mLe t T b)) (m + d) = nI v := by
          intro d
          induction d with
          | zero => intro _; exact h4
          | succ d ih =>
            intro hd
            show mFw _ ((m + d) + 1) = _
            unfold mFw
            rw [ih (by omega), if_neg (mI_ne (by omega))]
        have h8 := h7 (13 - m) (by omega)
        rw [show m + (13 - m) = 13 from by omega, h1] at h8
        exact mI_ne (by omega) h8.symm
    have h9 := mFw_at (f := mIsW T b (mLe t T b)) (k := w) (by omega) (q w (by omega)) h 13 hw
    rw [h9] at h1; exact mI_ne (by omega) h1
  · have h3 := mFw_in (by omega) 13 (by omega) h2
    have h4 := mIsW_un hw h1 h h3.1
    subst h4; exact h2
theorem mWd_lt {t : Nat} {T : Nat → Int32} {b w : Nat} (hw : w < 13) (h : mWd t T b = nI w) : mLt t T b = true := by
  have h1 := (mWd_iff hw).mp h
  unfold mIsW at h1
  rw [Bool.and_eq_true] at h1
  have a1 := of_decide_eq_true h1.1
  have h2 : ∀ w, w < 13 → 0 < lenS.getD w 0 := by decide
  have h3 := h2 w hw
  by_cases e : mLt t T b = true
  · exact e
  · have h4 := mLe_0 (Bool.eq_false_iff.mpr e)
    omega
/-- one item whose NAME is at b, with n children told ahead: where it ends (or fails), and what it tells -/
def mItS (t : Nat) (T : Nat → Int32) (n b : Nat) : MP :=
  if mWd t T b = 8 then mSem t T (mNum t T 0 31 (mNum t T 0 39 (mNx t T b, true)))
  else if mWd t T b = 9 then mSem t T (mNum t T 0 20 (mNum t T 0 (nI n - 1) (mNx t T b, true)))
  else if mWd t T b = 10 then mSem t T (mNum t T 0 40 (mNx t T b, true))
  else if mWd t T b = 11 then mSem t T (mNum t T 1 20 (mNx t T b, true))
  else if mWd t T b = 12 then mSem t T (mNum t T 2 30 (mNx t T b, true))
  else if (¬ mWd t T b < 0 ∧ mWd t T b < 6) ∧ n < 8 then mSem t T (mFar t T (mNum t T 0 5 (mWrd t T 6 (mNum t T 0 9 (mNx t T b, true)))))
  else (b, false)
def mItX (t : Nat) (T : Nat → Int32) (b : Nat) : Int32 := mV t T (mNx t T b)
def mItY (t : Nat) (T : Nat → Int32) (n b : Nat) : Int32 :=
  if mWd t T b = 8 then mV t T (mNum t T 0 39 (mNx t T b, true)).1
  else if mWd t T b = 9 then mV t T (mNum t T 0 (nI n - 1) (mNx t T b, true)).1
  else mV t T (mWrd t T 6 (mNum t T 0 9 (mNx t T b, true))).1
def mZf (t : Nat) (T : Nat → Int32) (s : MP) : Int32 := if mLt t T s.1 = true then mV t T (mWrd t T 7 s).1 else 0
def mItZ (t : Nat) (T : Nat → Int32) (b : Nat) : Int32 := mZf t T (mNum t T 0 5 (mWrd t T 6 (mNum t T 0 9 (mNx t T b, true))))
theorem mNum_no {t : Nat} {T : Nat → Int32} {lo hi : Int32} {s : MP} (h : s.2 = false) : mNum t T lo hi s = (s.1, false) := by unfold mNum; rw [if_neg (by rw [h]; simp)]
theorem mWrd_no {t : Nat} {T : Nat → Int32} {w : Nat} {s : MP} (h : s.2 = false) : mWrd t T w s = (s.1, false) := by unfold mWrd; rw [if_neg (by rw [h]; simp)]
theorem mSem_no {t : Nat} {T : Nat → Int32} {s : MP} (h : s.2 = false) : mSem t T s = (s.1, false) := by unfold mSem; rw [if_neg (by rw [h]; simp)]
theorem mNum_le {t : Nat} {T : Nat → Int32} {lo hi : Int32} {s : MP} (h : s.1 ≤ t) : s.1 ≤ (mNum t T lo hi s).1 ∧ (mNum t T lo hi s).1 ≤ t := by
  unfold mNum
  have h1 := mNx_le (T := T) h
  have h2 := mTe_ge t T s.1
  have h3 := mSk_ge t T (mTe t T s.1)
  split
  · show s.1 ≤ mNx t T s.1 ∧ mNx t T s.1 ≤ t
    unfold mNx at h1 ⊢; omega
  · exact ⟨Nat.le_refl _, h⟩
theorem mWrd_le {t : Nat} {T : Nat → Int32} {w : Nat} {s : MP} (h : s.1 ≤ t) : s.1 ≤ (mWrd t T w s).1 ∧ (mWrd t T w s).1 ≤ t := by
  unfold mWrd
  have h1 := mNx_le (T := T) h
  have h2 := mTe_ge t T s.1
  have h3 := mSk_ge t T (mTe t T s.1)
  split
  · show s.1 ≤ mNx t T s.1 ∧ mNx t T s.1 ≤ t
    unfold mNx at h1 ⊢; omega
  · exact ⟨Nat.le_refl _, h⟩
/-- the whole text: k items at most -/
def mLoop {σ : Type} (cnt : σ → Nat) (op : Int32 → Int32 → Int32 → Int32 → σ → σ) (t : Nat) (T : Nat → Int32) : Nat → σ → MP → σ × MP
  | 0, F, s => (F, s)
  | k + 1, F, s => if s.2 = true ∧ s.1 < t then mLoop cnt op t T k (op (mWd t T s.1) (mItX t T s.1) (mItY t T (cnt F) s.1) (mItZ t T s.1) F) (mItS t T (cnt F) s.1) else (F, s)
theorem mLoop_x {σ : Type} {cnt : σ → Nat} {op : Int32 → Int32 → Int32 → Int32 → σ → σ} {t : Nat} {T : Nat → Int32} {F : σ} {s : MP} (h : ¬ (s.2 = true ∧ s.1 < t)) : ∀ k, mLoop cnt op t T k F s = (F, s)
  | 0 => rfl
  | k + 1 => by unfold mLoop; rw [if_neg h]
theorem mLoop_s {σ : Type} {cnt : σ → Nat} {op : Int32 → Int32 → Int32 → Int32 → σ → σ} {t : Nat} {T : Nat → Int32} {F : σ} {s : MP} {k : Nat} (h : s.2 = true ∧ s.1 < t) : mLoop cnt op t T (k + 1) F s = mLoop cnt op t T k (op (mWd t T s.1) (mItX t T s.1) (mItY t T (cnt F) s.1) (mItZ t T s.1) F) (mItS t T (cnt F) s.1) := by
  show (if _ then _ else _) = _
  rw [if_pos h]
/-! the reference's tokens -/
def TapOk (f : Nat → Int32) : Prop := ∀ k, ¬ f k < 0
def mSrt (t : Nat) (T : Nat → Int32) (b : Nat) : Int32 := if mByte t T b < 0 then 0 else if mLt t T b = true then 1 else if mDg t T b = true then 2 else 3
def mHs (T : Nat → Int32) (b : Nat) : Nat → Int64
  | 0 => 0
  | k + 1 => 27 * mHs T b k + (T (b + k)).toInt64 - 96
def mWk (T : Nat → Int32) (b e : Nat) : Int64 := if e ≤ b + 8 then mHs T b (e - b) else -1
def mW64 (t : Nat) (T : Nat → Int32) (b : Nat) : Int64 := mWk T b (mLe t T b)
def mVk (T : Nat → Int32) (b e : Nat) : Int32 := if e ≤ b + 2 then mVal T b (e - b) else -1
def mVl (t : Nat) (T : Nat → Int32) (b : Nat) : Int32 := if mDg t T b = true then mVk T b (mDe t T b) else mByte t T b
theorem mSk_sb {t : Nat} {T : Nat → Int32} {p : Nat} (hp : p < t) (h : mByte t T p = 32) : mSk t T p = mSk t T (p + 1) := mSk_s hp (by rw [mByte_lt hp] at h; exact h)
theorem mSk_xb {t : Nat} {T : Nat → Int32} {p : Nat} (h : ¬ mByte t T p = 32) : mSk t T p = p := mEn_x (by unfold mBl; exact decide_eq_false h)
theorem mLe_sb {t : Nat} {T : Nat → Int32} {p : Nat} (hp : p < t) (h : ¬ mByte t T p < 97 ∧ ¬ 122 < mByte t T p) : mLe t T p = mLe t T (p + 1) := mEn_s hp (by unfold mLt; exact decide_eq_true h)
theorem mLe_xb {t : Nat} {T : Nat → Int32} {p : Nat} (h : ¬ (¬ mByte t T p < 97 ∧ ¬ 122 < mByte t T p)) : mLe t T p = p := mEn_x (by unfold mLt; exact decide_eq_false h)
theorem mDe_sb {t : Nat} {T : Nat → Int32} {p : Nat} (hp : p < t) (h : ¬ mByte t T p < 48 ∧ ¬ 57 < mByte t T p) : mDe t T p = mDe t T (p + 1) := mEn_s hp (by unfold mDg; exact decide_eq_true h)
theorem mDe_xb {t : Nat} {T : Nat → Int32} {p : Nat} (h : ¬ (¬ mByte t T p < 48 ∧ ¬ 57 < mByte t T p)) : mDe t T p = p := mEn_x (by unfold mDg; exact decide_eq_false h)
theorem i32_facts (x : Int32) : (x < 0 → x < 97) ∧ (x < 0 → x < 48) ∧ (¬ x < 97 → 57 < x) ∧ (x = 59 → 57 < x ∧ x < 97 ∧ ¬ x < 0) ∧ (x = -1 → x < 0) := by
  simp only [Int32.lt_iff_toInt_lt, ← Int32.toInt_inj, show (0 : Int32).toInt = 0 from by decide, show (97 : Int32).toInt = 97 from by decide, show (48 : Int32).toInt = 48 from by decide, show (57 : Int32).toInt = 57 from by decide, show (59 : Int32).toInt = 59 from by decide, show (-1 : Int32).toInt = -1 from by decide]
  omega
theorem mSrt_0 {t : Nat} {T : Nat → Int32} {b : Nat} (h : mByte t T b < 0) : mSrt t T b = 0 := by unfold mSrt; rw [if_pos h]
theorem mLt_neg {t : Nat} {T : Nat → Int32} {b : Nat} (h : mByte t T b < 0) : mLt t T b = false := by unfold mLt; exact decide_eq_false (fun q => q.1 ((i32_facts _).1 h))
theorem mDg_neg {t : Nat} {T : Nat → Int32} {b : Nat} (h : mByte t T b < 0) : mDg t T b = false := by unfold mDg; exact decide_eq_false (fun q => q.1 ((i32_facts _).2.1 h))
theorem mLt_t {t : Nat} {T : Nat → Int32} {b : Nat} (h : ¬ mByte t T b < 97 ∧ ¬ 122 < mByte t T b) : mLt t T b = true := by unfold mLt; exact decide_eq_true h
theorem mLt_f {t : Nat} {T : Nat → Int32} {b : Nat} (h : ¬ (¬ mByte t T b < 97 ∧ ¬ 122 < mByte t T b)) : mLt t T b = false := by unfold mLt; exact decide_eq_false h
theorem mDg_t {t : Nat} {T : Nat → Int32} {b : Nat} (h : ¬ mByte t T b < 48 ∧ ¬ 57 < mByte t T b) : mDg t T b = true := by unfold mDg; exact decide_eq_true h
theorem mDg_f {t : Nat} {T : Nat → Int32} {b : Nat} (h : ¬ (¬ mByte t T b < 48 ∧ ¬ 57 < mByte t T b)) : mDg t T b = false := by unfold mDg; exact decide_eq_false h
theorem mLt_dg {t : Nat} {T : Nat → Int32} {b : Nat} (h : mLt t T b = true) : mDg t T b = false := by
  unfold mLt at h
  have h1 := of_decide_eq_true h
  exact mDg_f (fun q => q.2 ((i32_facts _).2.2.1 h1.1))
theorem mLt_pos {t : Nat} {T : Nat → Int32} {b : Nat} (h : mLt t T b = true) : ¬ mByte t T b < 0 := fun q => by rw [mLt_neg q] at h; cases h
theorem mDg_pos {t : Nat} {T : Nat → Int32} {b : Nat} (h : mDg t T b = true) : ¬ mByte t T b < 0 := fun q => by rw [mDg_neg q] at h; cases h
theorem mSrt_1 {t : Nat} {T : Nat → Int32} {b : Nat} (h : mLt t T b = true) : mSrt t T b = 1 := by unfold mSrt; rw [if_neg (mLt_pos h), if_pos h]
theorem mSrt_2 {t : Nat} {T : Nat → Int32} {b : Nat} (h : mDg t T b = true) : mSrt t T b = 2 := by
  have h1 : ¬ mLt t T b = true := fun q => by rw [mLt_dg q] at h; cases h
  unfold mSrt; rw [if_neg (mDg_pos h), if_neg h1, if_pos h]
theorem mSrt_3 {t : Nat} {T : Nat → Int32} {b : Nat} (h0 : ¬ mByte t T b < 0) (h1 : mLt t T b = false) (h2 : mDg t T b = false) : mSrt t T b = 3 := by
  unfold mSrt; rw [if_neg h0, if_neg (by rw [h1]; decide), if_neg (by rw [h2]; decide)]
theorem mSrt_cases (t : Nat) (T : Nat → Int32) (b : Nat) : (mSrt t T b = 0 ∧ mByte t T b < 0 ∧ mLt t T b = false ∧ mDg t T b = false) ∨ (mSrt t T b = 1 ∧ mLt t T b = true ∧ mDg t T b = false) ∨ (mSrt t T b = 2 ∧ mLt t T b = false ∧ mDg t T b = true) ∨ (mSrt t T b = 3 ∧ ¬ mByte t T b < 0 ∧ mLt t T b = false ∧ mDg t T b = false) := by
  by_cases h0 : mByte t T b < 0
  · exact Or.inl ⟨mSrt_0 h0, h0, mLt_neg h0, mDg_neg h0⟩
  · by_cases h1 : mLt t T b = true
    · exact Or.inr (Or.inl ⟨mSrt_1 h1, h1, mLt_dg h1⟩)
    · by_cases h2 : mDg t T b = true
      · exact Or.inr (Or.inr (Or.inl ⟨mSrt_2 h2, Bool.eq_false_iff.mpr h1, h2⟩))
      · exact Or.inr (Or.inr (Or.inr ⟨mSrt_3 h0 (Bool.eq_false_iff.mpr h1) (Bool.eq_false_iff.mpr h2), h0, Bool.eq_false_iff.mpr h1, Bool.eq_false_iff.mpr h2⟩))
theorem mTe_0 {t : Nat} {T : Nat → Int32} {b : Nat} (h1 : mLt t T b = false) (h2 : mDg t T b = false) : mTe t T b = if b < t then b + 1 else b := by
  unfold mTe; rw [if_neg (by rw [h1]; decide), if_neg (by rw [h2]; decide)]
theorem mTe_1 {t : Nat} {T : Nat → Int32} {b : Nat} (h : mLt t T b = true) : mTe t T b = mLe t T b := by unfold mTe; rw [if_pos h]
theorem mTe_2 {t : Nat} {T : Nat → Int32} {b : Nat} (h : mDg t T b = true) : mTe t T b = mDe t T b := by
  have h1 : ¬ mLt t T b = true := fun q => by rw [mLt_dg q] at h; cases h
  unfold mTe; rw [if_neg h1, if_pos h]
def TA (t : Nat) (T : Nat → Int32) (bg te : Nat) (so : Int32) (wd : Int64) (vl : Int32) : Prop :=
  so = mSrt t T bg ∧ vl = (if so = 2 then 0 else mByte t T bg) ∧ ((so = 1 ∧ mLe t T bg = mLe t T te ∧ bg ≤ te ∧ wd = mWk T bg te) ∨ (¬ so = 1 ∧ wd = 0 ∧ te = if so = 3 then bg + 1 else bg))
def TB (t : Nat) (T : Nat → Int32) (bg te : Nat) (so : Int32) (wd : Int64) (vl : Int32) : Prop :=
  so = mSrt t T bg ∧ wd = mW64 t T bg ∧ ((so = 2 ∧ mDe t T bg = mDe t T te ∧ bg ≤ te ∧ vl = mVk T bg te) ∨ (¬ so = 2 ∧ vl = mByte t T bg ∧ te = mTe t T bg))
/-- the token at bg, as the reference holds it -/
def TC (t : Nat) (T : Nat → Int32) (bg te : Nat) (so : Int32) (wd : Int64) (vl : Int32) : Prop :=
  te = mTe t T bg ∧ so = mSrt t T bg ∧ wd = mW64 t T bg ∧ vl = mVl t T bg
theorem mWk_0 (T : Nat → Int32) (b : Nat) : mWk T b b = 0 := by unfold mWk; rw [if_pos (by omega), Nat.sub_self]; rfl
theorem mVk_0 (T : Nat → Int32) (b : Nat) : mVk T b b = 0 := by unfold mVk; rw [if_pos (by omega), Nat.sub_self]; rfl
theorem TA_i0 {t : Nat} {T : Nat → Int32} {bg : Nat} (h : mByte t T bg < 0) : TA t T bg bg 0 0 (mByte t T bg) :=
  ⟨(mSrt_0 h).symm, (if_neg (by decide)).symm, Or.inr ⟨by decide, rfl, (if_neg (by decide)).symm⟩⟩
theorem TA_i1 {t : Nat} {T : Nat → Int32} {bg : Nat} (h : ¬ mByte t T bg < 97 ∧ ¬ 122 < mByte t T bg) : TA t T bg bg 1 0 (mByte t T bg) :=
  ⟨(mSrt_1 (mLt_t h)).symm, (if_neg (by decide)).symm, Or.inl ⟨rfl, rfl, Nat.le_refl _, (mWk_0 _ _).symm⟩⟩
theorem TA_i2 {t : Nat} {T : Nat → Int32} {bg : Nat} (h : ¬ mByte t T bg < 48 ∧ ¬ 57 < mByte t T bg) : TA t T bg bg 2 0 0 :=
  ⟨(mSrt_2 (mDg_t h)).symm, (if_pos rfl).symm, Or.inr ⟨by decide, rfl, (if_neg (by decide)).symm⟩⟩
theorem TA_i3 {t : Nat} {T : Nat → Int32} {bg : Nat} (h0 : ¬ mByte t T bg < 0) (h1 : ¬ (¬ mByte t T bg < 97 ∧ ¬ 122 < mByte t T bg)) (h2 : ¬ (¬ mByte t T bg < 48 ∧ ¬ 57 < mByte t T bg)) : TA t T bg (bg + 1) 3 0 (mByte t T bg) :=
  ⟨(mSrt_3 h0 (mLt_f h1) (mDg_f h2)).symm, (if_neg (by decide)).symm, Or.inr ⟨by decide, rfl, (if_pos rfl).symm⟩⟩
theorem sub_lt {a b : Nat} {N : Nat} (hab : b ≤ a) (ha : a ≤ 1000) (hN : N ≤ 1000) : (nI a - nI b < nI N) = (a < b + N) := by
  apply propext
  rw [Int32.lt_iff_toInt_lt, pk_sub_toInt (by omega) (by omega), nI_toInt (by omega)]; omega
theorem TA_s1 {t : Nat} {T : Nat → Int32} {bg te : Nat} {so vl : Int32} {wd : Int64} (h : TA t T bg te so wd vl) (h1 : so = 1) (hin : te < t) (ht : t ≤ 240) (hl : ¬ mByte t T te < 97 ∧ ¬ 122 < mByte t T te) (h8 : nI te - nI bg < 8) : TA t T bg (te + 1) so (27 * wd + (mByte t T te).toInt64 - 96) vl := by
  obtain ⟨a, b, c⟩ := h
  rcases c with ⟨c1, c2, c3, c4⟩ | ⟨c1, _⟩
  · refine ⟨a, b, Or.inl ⟨c1, c2.trans (mLe_sb hin hl), by omega, ?_⟩⟩
    have e : te < bg + 8 := by
      have e2 := sub_lt (a := te) (b := bg) (N := 8) c3 (by omega) (by omega)
      exact e2.mp h8
    rw [c4]
    unfold mWk
    rw [if_pos (by omega), if_pos (by omega), show te + 1 - bg = (te - bg) + 1 from by omega]
    show _ = 27 * mHs T bg (te - bg) + (T (bg + (te - bg))).toInt64 - 96
    rw [show bg + (te - bg) = te from by omega, mByte_lt hin]
  · exact absurd h1 c1
theorem TA_s2 {t : Nat} {T : Nat → Int32} {bg te : Nat} {so vl : Int32} {wd : Int64} (h : TA t T bg te so wd vl) (h1 : so = 1) (hin : te < t) (ht : t ≤ 240) (hl : ¬ mByte t T te < 97 ∧ ¬ 122 < mByte t T te) (h8 : ¬ nI te - nI bg < 8) : TA t T bg (te + 1) so (-1) vl := by
  obtain ⟨a, b, c⟩ := h
  rcases c with ⟨c1, c2, c3, c4⟩ | ⟨c1, _⟩
  · refine ⟨a, b, Or.inl ⟨c1, c2.trans (mLe_sb hin hl), by omega, ?_⟩⟩
    have e : ¬ te < bg + 8 := by
      have e2 := sub_lt (a := te) (b := bg) (N := 8) c3 (by omega) (by omega)
      exact fun q => h8 (e2.mpr q)
    unfold mWk
    rw [if_neg (by omega)]
  · exact absurd h1 c1
theorem TB_a {t : Nat} {T : Nat → Int32} {bg te : Nat} {so vl : Int32} {wd : Int64} (hT : TapOk T) (h : TA t T bg te so wd vl) (h1 : ¬ so = 1) : TB t T bg te so wd vl := by
  obtain ⟨a, b, c⟩ := h
  rcases c with ⟨c1, _⟩ | ⟨_, c2, c3⟩
  · exact absurd c1 h1
  · rcases mSrt_cases t T bg with ⟨e, e1, e2, e3⟩ | ⟨e, e1, e2⟩ | ⟨e, e1, e2⟩ | ⟨e, e1, e2, e3⟩
    · have e4 := a.trans e
      subst e4
      have e5 : ¬ bg < t := fun q => by rw [mByte_lt q] at e1; exact hT _ e1
      refine ⟨a, ?_, Or.inr ⟨by decide, b.trans (if_neg (by decide)), ?_⟩⟩
      · unfold mW64; rw [mLe_0 e2, mWk_0]; exact c2
      · rw [c3, if_neg (by decide), mTe_0 e2 e3, if_neg e5]
    · exact absurd (a.trans e) h1
    · have e4 := a.trans e
      subst e4
      rw [if_neg (by decide)] at c3
      subst c3
      refine ⟨a, ?_, Or.inl ⟨rfl, rfl, Nat.le_refl _, ?_⟩⟩
      · unfold mW64; rw [mLe_0 e1, mWk_0]; exact c2
      · rw [mVk_0]; exact b.trans (if_pos rfl)
    · have e4 := a.trans e
      subst e4
      have e5 : bg < t := by
        by_cases q : bg < t
        · exact q
        · rw [mByte_ge q] at e1; exact absurd (by decide) e1
      refine ⟨a, ?_, Or.inr ⟨by decide, b.trans (if_neg (by decide)), ?_⟩⟩
      · unfold mW64; rw [mLe_0 e2, mWk_0]; exact c2
      · rw [c3, if_pos rfl, mTe_0 e2 e3, if_pos e5]
theorem TB_b {t : Nat} {T : Nat → Int32} {bg te : Nat} {so vl : Int32} {wd : Int64} (h : TA t T bg te so wd vl) (h1 : so = 1) (h2 : ¬ (¬ mByte t T te < 97 ∧ ¬ 122 < mByte t T te)) : TB t T bg te so wd vl := by
  obtain ⟨a, b, c⟩ := h
  rcases c with ⟨c1, c2, c3, c4⟩ | ⟨c1, _⟩
  · subst h1
    rcases mSrt_cases t T bg with ⟨e, e1, e2, e3⟩ | ⟨e, e1, e2⟩ | ⟨e, e1, e2⟩ | ⟨e, e1, e2, e3⟩
    · exact absurd (a.trans e) (by decide)
    · have e5 : mLe t T bg = te := c2.trans (mLe_xb h2)
      refine ⟨a, ?_, Or.inr ⟨by decide, b.trans (if_neg (by decide)), ?_⟩⟩
      · unfold mW64; rw [e5]; exact c4
      · rw [mTe_1 e1, e5]
    · exact absurd (a.trans e) (by decide)
    · exact absurd (a.trans e) (by decide)
  · exact absurd h1 c1
theorem val_c (v x : Int32) : 10 * v + x - 48 = v * 10 + (x - 48) := by rw [Int32.mul_comm, Int32.sub_eq_add_neg, Int32.sub_eq_add_neg, Int32.add_assoc]
theorem TB_s1 {t : Nat} {T : Nat → Int32} {bg te : Nat} {so vl : Int32} {wd : Int64} (h : TB t T bg te so wd vl) (h1 : so = 2) (hin : te < t) (ht : t ≤ 240) (hl : ¬ mByte t T te < 48 ∧ ¬ 57 < mByte t T te) (h8 : nI te - nI bg < 2) : TB t T bg (te + 1) so wd (10 * vl + mByte t T te - 48) := by
  obtain ⟨a, b, c⟩ := h
  rcases c with ⟨c1, c2, c3, c4⟩ | ⟨c1, _⟩
  · refine ⟨a, b, Or.inl ⟨c1, c2.trans (mDe_sb hin hl), by omega, ?_⟩⟩
    have e : te < bg + 2 := by
      have e2 := sub_lt (a := te) (b := bg) (N := 2) c3 (by omega) (by omega)
      exact e2.mp h8
    rw [c4]
    unfold mVk
    rw [if_pos (by omega), if_pos (by omega), show te + 1 - bg = (te - bg) + 1 from by omega]
    show _ = mVal T bg (te - bg) * 10 + (T (bg + (te - bg)) - 48)
    rw [show bg + (te - bg) = te from by omega, mByte_lt hin, val_c]
  · exact absurd h1 c1
theorem TB_s2 {t : Nat} {T : Nat → Int32} {bg te : Nat} {so vl : Int32} {wd : Int64} (h : TB t T bg te so wd vl) (h1 : so = 2) (hin : te < t) (ht : t ≤ 240) (hl : ¬ mByte t T te < 48 ∧ ¬ 57 < mByte t T te) (h8 : ¬ nI te - nI bg < 2) : TB t T bg (te + 1) so wd (-1) := by
  obtain ⟨a, b, c⟩ := h
  rcases c with ⟨c1, c2, c3, c4⟩ | ⟨c1, _⟩
  · refine ⟨a, b, Or.inl ⟨c1, c2.trans (mDe_sb hin hl), by omega, ?_⟩⟩
    have e : ¬ te < bg + 2 := by
      have e2 := sub_lt (a := te) (b := bg) (N := 2) c3 (by omega) (by omega)
      exact fun q => h8 (e2.mpr q)
    unfold mVk
    rw [if_neg (by omega)]
  · exact absurd h1 c1
theorem TC_a {t : Nat} {T : Nat → Int32} {bg te : Nat} {so vl : Int32} {wd : Int64} (h : TB t T bg te so wd vl) (h1 : ¬ so = 2) : TC t T bg te so wd vl := by
  obtain ⟨a, b, c⟩ := h
  rcases c with ⟨c1, _⟩ | ⟨_, c2, c3⟩
  · exact absurd c1 h1
  · have h2 : ¬ mDg t T bg = true := fun q => h1 (a.trans (mSrt_2 q))
    exact ⟨c3, a, b, by unfold mVl; rw [if_neg h2]; exact c2⟩
theorem TC_b {t : Nat} {T : Nat → Int32} {bg te : Nat} {so vl : Int32} {wd : Int64} (h : TB t T bg te so wd vl) (h1 : so = 2) (h2 : ¬ (¬ mByte t T te < 48 ∧ ¬ 57 < mByte t T te)) : TC t T bg te so wd vl := by
  obtain ⟨a, b, c⟩ := h
  rcases c with ⟨c1, c2, c3, c4⟩ | ⟨c1, _⟩
  · subst h1
    rcases mSrt_cases t T bg with ⟨e, e1, e2, e3⟩ | ⟨e, e1, e2⟩ | ⟨e, e1, e2⟩ | ⟨e, e1, e2, e3⟩
    · exact absurd (a.trans e) (by decide)
    · exact absurd (a.trans e) (by decide)
    · have e5 : mDe t T bg = te := c2.trans (mDe_xb h2)
      refine ⟨by rw [mTe_2 e2, e5], a, b, ?_⟩
      unfold mVl; rw [if_pos e2, e5]; exact c4
    · exact absurd (a.trans e) (by decide)
  · exact absurd h1 c1
def gB (g : Int32) : Bool := decide (¬ g = 0)
theorem gB_0 : gB 0 = false := by decide
theorem gB_1 : gB 1 = true := by decide
theorem gB_t {g : Int32} (h : ¬ g = 0) : gB g = true := decide_eq_true h
theorem gB_f {g : Int32} (h : g = 0) : gB g = false := by rw [h]; rfl
theorem mVl_2 {t : Nat} {T : Nat → Int32} {b : Nat} (h : mDg t T b = true) : mVl t T b = mVk T b (mDe t T b) := by unfold mVl; rw [if_pos h]
theorem mNok_y {t : Nat} {T : Nat → Int32} {bg te : Nat} {so vl lo hi : Int32} {wd : Int64} (hc : TC t T bg te so wd vl) (hs : so = 2) (hv : ¬ vl < lo ∧ ¬ hi < vl) (hlo : -1 < lo) : mNok t T lo hi bg = true ∧ vl = mV t T bg := by
  obtain ⟨_, a, _, b⟩ := hc
  have h1 : mDg t T bg = true := by
    rcases mSrt_cases t T bg with ⟨e, _⟩ | ⟨e, _⟩ | ⟨_, _, e⟩ | ⟨e, _⟩
    · exact absurd (hs.symm.trans (a.trans e)) (by decide)
    · exact absurd (hs.symm.trans (a.trans e)) (by decide)
    · exact e
    · exact absurd (hs.symm.trans (a.trans e)) (by decide)
  rw [mVl_2 h1] at b
  unfold mVk at b
  by_cases e : mDe t T bg ≤ bg + 2
  · rw [if_pos e] at b
    have b2 : vl = mV t T bg := b
    refine ⟨?_, b2⟩
    unfold mNok
    rw [h1, decide_eq_true e, ← b2, decide_eq_true hv]; rfl
  · rw [if_neg e] at b
    rw [b] at hv
    exact absurd hlo hv.1
theorem mNok_n {t : Nat} {T : Nat → Int32} {bg te : Nat} {so vl lo hi : Int32} {wd : Int64} (hc : TC t T bg te so wd vl) (h : ¬ so = 2 ∨ ¬ (¬ vl < lo ∧ ¬ hi < vl)) : mNok t T lo hi bg = false := by
  obtain ⟨_, a, _, b⟩ := hc
  refine Bool.eq_false_iff.mpr (fun q => ?_)
  unfold mNok at q
  rw [Bool.and_eq_true, Bool.and_eq_true] at q
  have q2 := of_decide_eq_true q.1.2
  have q3 := of_decide_eq_true q.2
  rcases h with h | h
  · exact h (a.trans (mSrt_2 q.1.1))
  · rw [mVl_2 q.1.1] at b
    unfold mVk at b
    rw [if_pos q2] at b
    rw [show vl = mV t T bg from b] at h
    exact h q3
theorem mNum_y {t : Nat} {T : Nat → Int32} {bg te : Nat} {so vl lo hi gd : Int32} {wd : Int64} (hc : TC t T bg te so wd vl) (hg : ¬ gd = 0) (hs : so = 2) (hv : ¬ vl < lo ∧ ¬ hi < vl) (hlo : -1 < lo) : mNum t T lo hi (bg, gB gd) = (mNx t T bg, true) := by
  unfold mNum; rw [if_pos ⟨gB_t hg, (mNok_y hc hs hv hlo).1⟩]
theorem mNum_z {t : Nat} {T : Nat → Int32} {bg : Nat} {lo hi gd : Int32} (h : gd = 0) : mNum t T lo hi (bg, gB gd) = (bg, false) := mNum_no (gB_f h)
theorem mNum_n {t : Nat} {T : Nat → Int32} {bg te : Nat} {so vl lo hi : Int32} {g : Bool} {wd : Int64} (hc : TC t T bg te so wd vl) (h : ¬ so = 2 ∨ ¬ (¬ vl < lo ∧ ¬ hi < vl)) : mNum t T lo hi (bg, g) = (bg, false) := by
  unfold mNum; rw [if_neg (by rw [mNok_n hc h]; simp)]
theorem mark_iff {t : Nat} {T : Nat → Int32} {bg te : Nat} {so vl : Int32} {wd : Int64} (hc : TC t T bg te so wd vl) : (so = 3 ∧ vl = 59) ↔ mByte t T bg = 59 := by
  obtain ⟨_, a, _, b⟩ := hc
  have hf := i32_facts (mByte t T bg)
  rcases mSrt_cases t T bg with ⟨e, e1, e2, e3⟩ | ⟨e, e1, e2⟩ | ⟨e, e1, e2⟩ | ⟨e, e1, e2, e3⟩
  · refine ⟨fun q => absurd (q.1.symm.trans (a.trans e)) (by decide), fun q => absurd e1 (hf.2.2.2.1 q).2.2⟩
  · refine ⟨fun q => absurd (q.1.symm.trans (a.trans e)) (by decide), fun q => ?_⟩
    unfold mLt at e1
    exact absurd (hf.2.2.2.1 q).2.1 (of_decide_eq_true e1).1
  · refine ⟨fun q => absurd (q.1.symm.trans (a.trans e)) (by decide), fun q => ?_⟩
    unfold mDg at e2
    exact absurd (hf.2.2.2.1 q).1 (of_decide_eq_true e2).2
  · have b2 : vl = mByte t T bg := by rw [b]; unfold mVl; rw [if_neg (by rw [e3]; decide)]
    exact ⟨fun q => b2.symm.trans q.2, fun q => ⟨a.trans e, b2.trans q⟩⟩
theorem mSem_y {t : Nat} {T : Nat → Int32} {bg te : Nat} {so vl gd : Int32} {wd : Int64} (hc : TC t T bg te so wd vl) (hg : ¬ gd = 0) (hs : so = 3 ∧ vl = 59) : mSem t T (bg, gB gd) = (mNx t T bg, true) := by
  unfold mSem; rw [if_pos ⟨gB_t hg, (mark_iff hc).mp hs⟩]
theorem mSem_z {t : Nat} {T : Nat → Int32} {bg : Nat} {gd : Int32} (h : gd = 0) : mSem t T (bg, gB gd) = (bg, false) := mSem_no (gB_f h)
theorem mSem_n {t : Nat} {T : Nat → Int32} {bg te : Nat} {so vl : Int32} {g : Bool} {wd : Int64} (hc : TC t T bg te so wd vl) (h : ¬ (so = 3 ∧ vl = 59)) : mSem t T (bg, g) = (bg, false) := by
  unfold mSem; rw [if_neg (fun q => h ((mark_iff hc).mpr q.2))]
/-- words by their numbers -/
def wNum (w : Nat) : Int64 := ([1758676, 220610, 6897, 296958548, 21569193884, 32057216971, 257, 4419, 2968, 380630, 10927033, 283623667, 247664] : List Int64).getD w 0
def nHs (d : Nat → Nat) : Nat → Nat
  | 0 => 0
  | k + 1 => 27 * nHs d k + d k
theorem nHs_0 (d : Nat → Nat) : nHs d 0 = 0 := rfl
theorem nHs_s (d : Nat → Nat) (k : Nat) : nHs d (k + 1) = 27 * nHs d k + d k := rfl
theorem nHs_inj {d e : Nat → Nat} : ∀ k m : Nat, (∀ i, i < k → 1 ≤ d i ∧ d i ≤ 26) → (∀ i, i < m → 1 ≤ e i ∧ e i ≤ 26) → nHs d k = nHs e m → k = m ∧ ∀ i, i < k → d i = e i
  | 0, 0, _, _, _ => ⟨rfl, fun i hi => absurd hi (Nat.not_lt_zero i)⟩
  | 0, m + 1, _, he, h => by
    have h1 := he m (by omega)
    have h2 : 0 = 27 * nHs e m + e m := h
    omega
  | k + 1, 0, hd, _, h => by
    have h1 := hd k (by omega)
    have h2 : 27 * nHs d k + d k = 0 := h
    omega
  | k + 1, m + 1, hd, he, h => by
    have h1 := hd k (by omega)
    have h2 := he m (by omega)
    have h3 : 27 * nHs d k + d k = 27 * nHs e m + e m := h
    have h4 : nHs d k = nHs e m := by omega
    have h5 := nHs_inj k m (fun i hi => hd i (by omega)) (fun i hi => he i (by omega)) h4
    refine ⟨by omega, fun i hi => ?_⟩
    by_cases e1 : i = k
    · subst e1
      have e2 := h5.1
      subst e2; omega
    · exact h5.2 i (by omega)
theorem nHs_lt {d : Nat → Nat} : ∀ k : Nat, (∀ i, i < k → d i ≤ 26) → nHs d k < 27 ^ k
  | 0, _ => by
    show 0 < 27 ^ 0
    decide
  | k + 1, h => by
    have h1 := nHs_lt k (fun i hi => h i (by omega))
    have h2 := h k (by omega)
    show 27 * nHs d k + d k < 27 ^ (k + 1)
    rw [Nat.pow_succ]; omega
/-- the letters from b on, as numbers from 1 on -/
def lDg (T : Nat → Int32) (b i : Nat) : Nat := ((T (b + i)).toInt - 96).toNat
theorem mHs_n {T : Nat → Int32} {b : Nat} : ∀ k : Nat, k ≤ 8 → (∀ i, i < k → 97 ≤ (T (b + i)).toInt ∧ (T (b + i)).toInt ≤ 122) → (mHs T b k).toInt = (nHs (lDg T b) k : Int)
  | 0, _, _ => by show (0 : Int64).toInt = 0; decide
  | k + 1, hk, h => by
    have h1 := mHs_n k (by omega) (fun i hi => h i (by omega))
    have h2 := h k (by omega)
    have h3 := nHs_lt (d := lDg T b) k (fun i hi => by have := h i (by omega); unfold lDg; omega)
    have h4 : (27 : Nat) ^ k ≤ 27 ^ 7 := Nat.pow_le_pow_right (by decide) (by omega)
    have h5 : (27 : Nat) ^ 7 = 10460353203 := by decide
    show (27 * mHs T b k + (T (b + k)).toInt64 - 96).toInt = ((27 * nHs (lDg T b) k + lDg T b k : Nat) : Int)
    have e0 : ((27 : Int64) * mHs T b k).toInt = 27 * (nHs (lDg T b) k : Int) := by
      rw [Int64.toInt_mul, h1, show (27 : Int64).toInt = 27 from by decide]
      apply Int.bmod_eq_of_le <;> omega
    have e1 : ((27 : Int64) * mHs T b k + (T (b + k)).toInt64).toInt = 27 * (nHs (lDg T b) k : Int) + (T (b + k)).toInt := by
      rw [Int64.toInt_add, e0, Int32.toInt_toInt64]
      apply Int.bmod_eq_of_le <;> omega
    rw [Int64.toInt_sub, e1, show (96 : Int64).toInt = 96 from by decide]
    have e2 : (lDg T b k : Int) = (T (b + k)).toInt - 96 := by unfold lDg; omega
    have e3 : Int.bmod (27 * (nHs (lDg T b) k : Int) + (T (b + k)).toInt - 96) (2 ^ 64) = 27 * (nHs (lDg T b) k : Int) + (T (b + k)).toInt - 96 := by
      apply Int.bmod_eq_of_le <;> omega
    rw [e3]
    have e4 : ((27 * nHs (lDg T b) k + lDg T b k : Nat) : Int) = 27 * (nHs (lDg T b) k : Int) + (lDg T b k : Int) := by omega
    rw [e4, e2]; omega
def wDg (w i : Nat) : Nat := ((chS w i).toInt - 96).toNat
theorem wNum_n : ∀ w, w < 13 → (wNum w).toInt = (nHs (wDg w) (lenS.getD w 0) : Int) := by decide +kernel
theorem wDg_in : ∀ w, w < 13 → ∀ i, i < lenS.getD w 0 → 97 ≤ (chS w i).toInt ∧ (chS w i).toInt ≤ 122 := by decide +kernel
theorem lenS_8 : ∀ w, w < 13 → 1 ≤ lenS.getD w 0 ∧ lenS.getD w 0 ≤ 8 := by decide
theorem mLe_in {t : Nat} {T : Nat → Int32} {b i : Nat} (h : b + i < mLe t T b) : 97 ≤ (T (b + i)).toInt ∧ (T (b + i)).toInt ≤ 122 := by
  have h1 := mEn_all (f := mLt t T) (t := t) (p := b) (i := b + i) (by omega) h
  have h2 := mLt_in h1
  unfold mLt at h1
  have h3 := of_decide_eq_true h1
  rw [mByte_lt h2] at h3
  simp only [Int32.lt_iff_toInt_lt, show (97 : Int32).toInt = 97 from by decide, show (122 : Int32).toInt = 122 from by decide] at h3
  omega
theorem hash_to {T : Nat → Int32} {b m w : Nat} (hw : w < 13) (hm : m ≤ 8) (hd : ∀ i, i < m → 97 ≤ (T (b + i)).toInt ∧ (T (b + i)).toInt ≤ 122) (h : mHs T b m = wNum w) : m = lenS.getD w 0 ∧ ∀ i, i < m → T (b + i) = chS w i := by
  have hn := wNum_n w hw
  have hh := mHs_n (T := T) (b := b) m hm hd
  rw [h, hn] at hh
  have e1 : nHs (lDg T b) m = nHs (wDg w) (lenS.getD w 0) := (Int.ofNat.inj hh).symm
  have hld : ∀ i, i < m → 1 ≤ lDg T b i ∧ lDg T b i ≤ 26 := fun i hi => by have := hd i hi; unfold lDg; omega
  have hwd : ∀ i, i < lenS.getD w 0 → 1 ≤ wDg w i ∧ wDg w i ≤ 26 := fun i hi => by have := wDg_in w hw i hi; unfold wDg; omega
  obtain ⟨e3, e4⟩ := nHs_inj _ _ hld hwd e1
  refine ⟨e3, fun i hi => ?_⟩
  have e5 := e4 i hi
  have e6 := hd i hi
  have e7 := wDg_in w hw i (e3 ▸ hi)
  unfold lDg wDg at e5
  exact Int32.toInt_inj.mp (by omega)
theorem hash_of {T : Nat → Int32} {b w : Nat} (hw : w < 13) (h : ∀ i, i < lenS.getD w 0 → T (b + i) = chS w i) : mHs T b (lenS.getD w 0) = wNum w := by
  have hn := wNum_n w hw
  have hh := mHs_n (T := T) (b := b) (lenS.getD w 0) (lenS_8 w hw).2 (fun i hi => by rw [h i hi]; exact wDg_in w hw i hi)
  have e8 : ∀ k, k ≤ lenS.getD w 0 → nHs (lDg T b) k = nHs (wDg w) k := by
    intro k
    induction k with
    | zero => intro _; rw [nHs_0, nHs_0]
    | succ k ih =>
      intro hk
      have e9 : lDg T b k = wDg w k := by unfold lDg wDg; rw [h k (by omega)]
      rw [nHs_s, nHs_s, ih (by omega), e9]
  apply Int64.toInt_inj.mp
  rw [hh, hn, e8 _ (Nat.le_refl _)]
theorem hash_no {w : Nat} (hw : w < 13) : ¬ (-1 : Int64) = wNum w := fun h => by
  have e2 := congrArg Int64.toInt h
  rw [wNum_n w hw, show (-1 : Int64).toInt = -1 from by decide] at e2
  have e3 := Int.natCast_nonneg (nHs (wDg w) (lenS.getD w 0))
  rw [← e2] at e3
  exact absurd e3 (by decide)
theorem word_iff {t : Nat} {T : Nat → Int32} {bg te : Nat} {so vl : Int32} {wd : Int64} (hc : TC t T bg te so wd vl) {w : Nat} (hw : w < 13) : (so = 1 ∧ wd = wNum w) ↔ mWd t T bg = nI w := by
  rw [mWd_iff hw]
  obtain ⟨_, a, b, _⟩ := hc
  have hl := lenS_8 w hw
  have hge := mLe_ge t T bg
  by_cases h8 : mLe t T bg ≤ bg + 8
  · have hd : ∀ i, i < mLe t T bg - bg → 97 ≤ (T (bg + i)).toInt ∧ (T (bg + i)).toInt ≤ 122 := fun i hi => mLe_in (t := t) (by omega)
    have hb : wd = mHs T bg (mLe t T bg - bg) := by rw [b]; unfold mW64 mWk; rw [if_pos h8]
    refine ⟨fun q => ?_, fun q => ?_⟩
    · obtain ⟨e3, e4⟩ := hash_to hw (by omega) hd (hb.symm.trans q.2)
      unfold mIsW
      rw [Bool.and_eq_true]
      exact ⟨decide_eq_true (by omega), mAll_of (fun i hi => decide_eq_true (e4 i (by omega)))⟩
    · unfold mIsW at q
      rw [Bool.and_eq_true] at q
      have q1 := of_decide_eq_true q.1
      have q2 : ∀ i, i < lenS.getD w 0 → T (bg + i) = chS w i := fun i hi => of_decide_eq_true (mAll_is q.2 i hi)
      have hlt : mLt t T bg = true := by
        by_cases e : mLt t T bg = true
        · exact e
        · have := mLe_0 (Bool.eq_false_iff.mpr e); omega
      refine ⟨a.trans (mSrt_1 hlt), ?_⟩
      rw [hb, show mLe t T bg - bg = lenS.getD w 0 from by omega]
      exact hash_of hw q2
  · refine ⟨fun q => ?_, fun q => ?_⟩
    · exfalso
      have e1 : wd = -1 := by rw [b]; unfold mW64 mWk; rw [if_neg h8]
      exact hash_no hw (e1.symm.trans q.2)
    · exfalso
      unfold mIsW at q
      rw [Bool.and_eq_true] at q
      have q1 := of_decide_eq_true q.1
      omega
/-- the kind that the word at b names -/
def mKind (t : Nat) (T : Nat → Int32) (b : Nat) : Int32 := if ¬ mWd t T b < 0 ∧ mWd t T b < 6 then mWd t T b else -1
def mKh (so : Int32) (wd : Int64) : Int32 := if so = 1 ∧ wd = 1758676 then 0 else if so = 1 ∧ wd = 220610 then 1 else if so = 1 ∧ wd = 6897 then 2 else if so = 1 ∧ wd = 296958548 then 3 else if so = 1 ∧ wd = 21569193884 then 4 else if so = 1 ∧ wd = 32057216971 then 5 else -1
theorem kind_iff {t : Nat} {T : Nat → Int32} {bg te : Nat} {so vl : Int32} {wd : Int64} (hc : TC t T bg te so wd vl) : mKh so wd = mKind t T bg := by
  have h0 : (so = 1 ∧ wd = 1758676) ↔ mWd t T bg = 0 := word_iff hc (w := 0) (by decide)
  have h1 : (so = 1 ∧ wd = 220610) ↔ mWd t T bg = 1 := word_iff hc (w := 1) (by decide)
  have h2 : (so = 1 ∧ wd = 6897) ↔ mWd t T bg = 2 := word_iff hc (w := 2) (by decide)
  have h3 : (so = 1 ∧ wd = 296958548) ↔ mWd t T bg = 3 := word_iff hc (w := 3) (by decide)
  have h4 : (so = 1 ∧ wd = 21569193884) ↔ mWd t T bg = 4 := word_iff hc (w := 4) (by decide)
  have h5 : (so = 1 ∧ wd = 32057216971) ↔ mWd t T bg = 5 := word_iff hc (w := 5) (by decide)
  unfold mKh mKind
  by_cases e0 : mWd t T bg = 0
  · rw [if_pos (h0.mpr e0), e0]; rfl
  · rw [if_neg (fun q => e0 (h0.mp q))]
    by_cases e1 : mWd t T bg = 1
    · rw [if_pos (h1.mpr e1), e1]; rfl
    · rw [if_neg (fun q => e1 (h1.mp q))]
      by_cases e2 : mWd t T bg = 2
      · rw [if_pos (h2.mpr e2), e2]; rfl
      · rw [if_neg (fun q => e2 (h2.mp q))]
        by_cases e3 : mWd t T bg = 3
        · rw [if_pos (h3.mpr e3), e3]; rfl
        · rw [if_neg (fun q => e3 (h3.mp q))]
          by_cases e4 : mWd t T bg = 4
          · rw [if_pos (h4.mpr e4), e4]; rfl
          · rw [if_neg (fun q => e4 (h4.mp q))]
            by_cases e5 : mWd t T bg = 5
            · rw [if_pos (h5.mpr e5), e5]; rfl
            · rw [if_neg (fun q => e5 (h5.mp q))]
              rcases mFw_range (mIsW T bg (mLe t T bg)) 13 with q | ⟨w, q1, q2⟩
              · have q3 : mWd t T bg = -1 := q
                rw [q3]; rfl
              · have q3 : mWd t T bg = nI w := q2
                have q4 : 6 ≤ w := by
                  rw [q3] at e0 e1 e2 e3 e4 e5
                  rcases (show w = 0 ∨ w = 1 ∨ w = 2 ∨ w = 3 ∨ w = 4 ∨ w = 5 ∨ 6 ≤ w from by omega) with h | h | h | h | h | h | h
                  · subst h; exact absurd rfl e0
                  · subst h; exact absurd rfl e1
                  · subst h; exact absurd rfl e2
                  · subst h; exact absurd rfl e3
                  · subst h; exact absurd rfl e4
                  · subst h; exact absurd rfl e5
                  · exact h
                rw [q3, if_neg (fun q5 => nI_nlt (a := w) (b := 6) q4 (by omega) q5.2)]
theorem mNx_of {t : Nat} {T : Nat → Int32} {bg te p : Nat} {so vl : Int32} {wd : Int64} (hc : TC t T bg te so wd vl) (h : p = mSk t T te) : p = mNx t T bg := by
  rw [h, hc.1]; rfl
theorem num_y {t : Nat} {T : Nat → Int32} {bg te p : Nat} {so vl lo hi gd : Int32} {wd : Int64} (hc : TC t T bg te so wd vl) (hg : ¬ gd = 0) (hs : so = 2) (hv : ¬ vl < lo ∧ ¬ hi < vl) (hlo : -1 < lo) (h : p = mSk t T te) : mNum t T lo hi (bg, gB gd) = (p, gB 1) := by
  rw [mNx_of hc h, gB_1]; exact mNum_y hc hg hs hv hlo
theorem num_n {t : Nat} {T : Nat → Int32} {bg : Nat} {lo hi gd : Int32} (h : mNum t T lo hi (bg, gB gd) = (bg, false)) : mNum t T lo hi (bg, gB gd) = (bg, gB 0) := by rw [gB_0]; exact h
theorem sem_y {t : Nat} {T : Nat → Int32} {bg te p : Nat} {so vl gd : Int32} {wd : Int64} (hc : TC t T bg te so wd vl) (hg : ¬ gd = 0) (hs : so = 3 ∧ vl = 59) (h : p = mSk t T te) : mSem t T (bg, gB gd) = (p, gB 1) := by
  rw [mNx_of hc h, gB_1]; exact mSem_y hc hg hs
theorem sem_n {t : Nat} {T : Nat → Int32} {bg : Nat} {gd : Int32} (h : mSem t T (bg, gB gd) = (bg, false)) : mSem t T (bg, gB gd) = (bg, gB 0) := by rw [gB_0]; exact h
theorem lawP {t : Nat} {T : Nat → Int32} {bg te p q : Nat} {so vl lo hi gd g1 g2 : Int32} {r : Nat} {wd : Int64} (hc : TC t T bg te so wd vl) (h : p = mSk t T te) (hn : mNum t T lo hi (p, gB gd) = (q, gB g1)) (hs : mSem t T (q, gB g1) = (r, gB g2)) : mSem t T (mNum t T lo hi (mNx t T bg, gB gd)) = (r, gB g2) := by
  rw [← mNx_of hc h, hn]; exact hs
/-- a child's item, step by step, as the reference goes -/
def mC0 (t : Nat) (T : Nat → Int32) (n b : Nat) : MP := if n < 8 then (mNx t T b, true) else (b, false)
def mC1 (t : Nat) (T : Nat → Int32) (n b : Nat) : MP := mNum t T 0 9 (mC0 t T n b)
def mC2 (t : Nat) (T : Nat → Int32) (n b : Nat) : MP := mWrd t T 6 (mC1 t T n b)
def mC3 (t : Nat) (T : Nat → Int32) (n b : Nat) : MP := mNum t T 0 5 (mC2 t T n b)
def mC4 (t : Nat) (T : Nat → Int32) (n b : Nat) : MP := if (mC3 t T n b).2 = true ∧ mWd t T (mC3 t T n b).1 = 7 then mNum t T 0 9 (mNx t T (mC3 t T n b).1, true) else mC3 t T n b
def mC5 (t : Nat) (T : Nat → Int32) (n b : Nat) : MP := mSem t T (mC4 t T n b)
def mZr (t : Nat) (T : Nat → Int32) (n b : Nat) : Int32 := if mWd t T (mC3 t T n b).1 = 7 then mV t T (mNx t T (mC3 t T n b).1) else 0
section CH
variable {t n b p p1 p2 p3 te te1 : Nat} {T : Nat → Int32} {so vl g g1 g2 g3 : Int32} {wd : Int64}
theorem C0_y (h : n < 8) (hc : TC t T b te so wd vl) (hA : p = mSk t T te) : mC0 t T n b = (p, gB 1) := by
  unfold mC0; rw [if_pos h, mNx_of hc hA, gB_1]
theorem C0_n (h : ¬ n < 8) : mC0 t T n b = (b, gB 0) := by unfold mC0; rw [if_neg h, gB_0]
theorem C1_s (h0 : mC0 t T n b = (p, gB g)) (hn : mNum t T 0 9 (p, gB g) = (p1, gB g1)) : mC1 t T n b = (p1, gB g1) := by unfold mC1; rw [h0]; exact hn
theorem wrd_y {w : Nat} (hw13 : w < 13) (hg : ¬ g1 = 0) (hc : TC t T p1 te so wd vl) (hw : so = 1 ∧ wd = wNum w) (hA : p2 = mSk t T te) : mWrd t T w (p1, gB g1) = (p2, gB 1) := by
  unfold mWrd; rw [if_pos ⟨gB_t hg, (word_iff hc hw13).mp hw⟩, mNx_of hc hA, gB_1]
theorem wrd_n {w : Nat} (hg : g1 = 0) : mWrd t T w (p1, gB g1) = (p1, false) := mWrd_no (gB_f hg)
theorem wrd_m {w : Nat} (hw13 : w < 13) (hc : TC t T p1 te so wd vl) (hw : ¬ (so = 1 ∧ wd = wNum w)) : mWrd t T w (p1, gB g1) = (p1, false) := by
  unfold mWrd; rw [if_neg (fun q => hw ((word_iff hc hw13).mpr q.2))]
theorem C2_y (h0 : mC0 t T n b = (p, gB g)) (hn : mNum t T 0 9 (p, gB g) = (p1, gB g1)) (hg : ¬ g1 = 0) (hc : TC t T p1 te so wd vl) (hw : so = 1 ∧ wd = 257) (hA : p2 = mSk t T te) : mC2 t T n b = (p2, gB 1) := by
  unfold mC2; rw [C1_s h0 hn]; exact wrd_y (by decide) hg hc hw hA
theorem C2_n (h0 : mC0 t T n b = (p, gB g)) (hn : mNum t T 0 9 (p, gB g) = (p1, gB g1)) (hg : g1 = 0) : mC2 t T n b = (p1, false) := by
  unfold mC2; rw [C1_s h0 hn]; exact wrd_n hg
theorem C2_m (h0 : mC0 t T n b = (p, gB g)) (hn : mNum t T 0 9 (p, gB g) = (p1, gB g1)) (hc : TC t T p1 te so wd vl) (hw : ¬ (so = 1 ∧ wd = 257)) : mC2 t T n b = (p1, false) := by
  unfold mC2; rw [C1_s h0 hn]; exact wrd_m (by decide) hc hw
theorem C2_f (h : mC2 t T n b = (p, false)) : mC2 t T n b = (p, gB 0) := by rw [gB_0]; exact h
theorem C3_s (h2 : mC2 t T n b = (p, gB g)) (hn : mNum t T 0 5 (p, gB g) = (p1, gB g1)) : mC3 t T n b = (p1, gB g1) := by unfold mC3; rw [h2]; exact hn
theorem C4_n (h2 : mC2 t T n b = (p, gB g)) (hn : mNum t T 0 5 (p, gB g) = (p1, gB g1)) (hg : g1 = 0) : mC4 t T n b = (p1, gB g1) := by
  unfold mC4; rw [C3_s h2 hn]; exact if_neg (fun q => absurd q.1 (by rw [gB_f hg]; exact Bool.false_ne_true))
theorem C4_m (h2 : mC2 t T n b = (p, gB g)) (hn : mNum t T 0 5 (p, gB g) = (p1, gB g1)) (hc : TC t T p1 te so wd vl) (hw : ¬ (so = 1 ∧ wd = 4419)) : mC4 t T n b = (p1, gB g1) := by
  unfold mC4; rw [C3_s h2 hn]; exact if_neg (fun q => hw ((word_iff hc (w := 7) (by decide)).mpr q.2))
theorem C4_y (h2 : mC2 t T n b = (p, gB g)) (hn : mNum t T 0 5 (p, gB g) = (p1, gB g1)) (hg : ¬ g1 = 0) (hc : TC t T p1 te so wd vl) (hw : so = 1 ∧ wd = 4419) (hA : p2 = mSk t T te) (hn2 : mNum t T 0 9 (p2, gB g1) = (p3, gB g3)) : mC4 t T n b = (p3, gB g3) := by
  unfold mC4; rw [C3_s h2 hn, if_pos ⟨gB_t hg, (word_iff hc (w := 7) (by decide)).mp hw⟩]
  show mNum t T 0 9 (mNx t T p1, true) = _
  rw [← mNx_of hc hA, ← gB_t hg]; exact hn2
theorem C5_s (h4 : mC4 t T n b = (p, gB g)) (hs : mSem t T (p, gB g) = (p1, gB g1)) : mC5 t T n b = (p1, gB g1) := by unfold mC5; rw [h4]; exact hs
variable {a ho fa r r2 : Int32}
theorem V2_y (h0 : mC0 t T n b = (p, gB g)) (hv : g1 = 0 ∨ r = mV t T p) (hg : ¬ g1 = 0) : (1 : Int32) = 0 ∨ r = mV t T (mC0 t T n b).1 := Or.inr (by rw [h0]; exact hv.resolve_left hg)
theorem V4_n (hg : g1 = 0) : g1 = 0 ∨ (a = mV t T (mC0 t T n b).1 ∧ ho = mV t T (mC2 t T n b).1 ∧ fa = mZr t T n b) := Or.inl hg
theorem V4_m (h2 : mC2 t T n b = (p, gB g)) (hn : mNum t T 0 5 (p, gB g) = (p1, gB g1)) (hc : TC t T p1 te so wd vl) (hw : ¬ (so = 1 ∧ wd = 4419)) (hva : g = 0 ∨ a = mV t T (mC0 t T n b).1) (hgg : g1 = 0 ∨ ¬ g = 0) (hv : g1 = 0 ∨ ho = mV t T p) : g1 = 0 ∨ (a = mV t T (mC0 t T n b).1 ∧ ho = mV t T (mC2 t T n b).1 ∧ 0 = mZr t T n b) := by
  by_cases e : g1 = 0
  · exact Or.inl e
  · refine Or.inr ⟨hva.resolve_left (hgg.resolve_left e), by rw [h2]; exact hv.resolve_left e, ?_⟩
    unfold mZr; rw [C3_s h2 hn]; exact (if_neg (fun q => hw ((word_iff hc (w := 7) (by decide)).mpr q))).symm
theorem V4_y (h2 : mC2 t T n b = (p, gB g)) (hn : mNum t T 0 5 (p, gB g) = (p1, gB g1)) (hg : ¬ g1 = 0) (hc : TC t T p1 te so wd vl) (hw : so = 1 ∧ wd = 4419) (hA : p2 = mSk t T te) (hva : g = 0 ∨ a = mV t T (mC0 t T n b).1) (hgg : g1 = 0 ∨ ¬ g = 0) (hv : g1 = 0 ∨ ho = mV t T p) (hv2 : g3 = 0 ∨ fa = mV t T p2) : g3 = 0 ∨ (a = mV t T (mC0 t T n b).1 ∧ ho = mV t T (mC2 t T n b).1 ∧ fa = mZr t T n b) := by
  by_cases e : g3 = 0
  · exact Or.inl e
  · refine Or.inr ⟨hva.resolve_left (hgg.resolve_left hg), by rw [h2]; exact hv.resolve_left hg, ?_⟩
    have h7 : mWd t T p1 = 7 := (word_iff hc (w := 7) (by decide)).mp hw
    unfold mZr; rw [C3_s h2 hn, if_pos (show mWd t T (p1, gB g1).1 = 7 from h7)]
    show fa = mV t T (mNx t T p1)
    rw [← mNx_of hc hA]; exact hv2.resolve_left e
end CH
/-- what the reference stores of a child -/
def mPutK (f : Nat → Int32) (n : Nat) (k a h r : Int32) : Nat → Int32 := upd (upd (upd (upd f (4 * n) k) (4 * n + 1) a) (4 * n + 2) h) (4 * n + 3) r
theorem mSem_far {t : Nat} {T : Nat → Int32} (s : MP) : mSem t T (mFar t T s) = mSem t T (if s.2 = true ∧ mWd t T s.1 = 7 then mNum t T 0 9 (mNx t T s.1, true) else s) := by
  by_cases e : s.2 = true
  · by_cases e2 : mWd t T s.1 = 7
    · have h1 := mWd_lt (w := 7) (by decide) e2
      rw [if_pos ⟨e, e2⟩]
      unfold mFar mWrd
      rw [if_pos h1, if_pos ⟨e, e2⟩]
    · rw [if_neg (fun q => e2 q.2)]
      unfold mFar
      by_cases e3 : mLt t T s.1 = true
      · rw [if_pos e3]
        have h2 : mWrd t T 7 s = (s.1, false) := by unfold mWrd; rw [if_neg (fun q => e2 q.2)]
        rw [h2, mNum_no rfl, mSem_no rfl]
        unfold mSem
        rw [if_neg (fun q => by
          unfold mLt at e3
          exact absurd ((i32_facts _).2.2.2.1 q.2).2.1 (of_decide_eq_true e3).1)]
      · rw [if_neg e3]
  · have e4 : s.2 = false := Bool.eq_false_iff.mpr e
    rw [if_neg (fun q => e q.1)]
    unfold mFar
    by_cases e3 : mLt t T s.1 = true
    · rw [if_pos e3, mWrd_no e4, mNum_no rfl, mSem_no rfl, mSem_no e4]
    · rw [if_neg e3]
theorem C5_is {t : Nat} {T : Nat → Int32} {n b : Nat} (h : n < 8) : mC5 t T n b = mSem t T (mFar t T (mNum t T 0 5 (mWrd t T 6 (mNum t T 0 9 (mNx t T b, true))))) := by
  rw [mSem_far]
  unfold mC5 mC4 mC3 mC2 mC1 mC0
  rw [if_pos h]
theorem C5_no {t : Nat} {T : Nat → Int32} {n b : Nat} (h : ¬ n < 8) : mC5 t T n b = (b, false) := by
  have h0 : mC0 t T n b = (b, false) := by unfold mC0; rw [if_neg h]
  have h1 : mC1 t T n b = (b, false) := by unfold mC1; rw [h0]; exact mNum_no rfl
  have h2 : mC2 t T n b = (b, false) := by unfold mC2; rw [h1]; exact mWrd_no rfl
  have h3 : mC3 t T n b = (b, false) := by unfold mC3; rw [h2]; exact mNum_no rfl
  have h4 : mC4 t T n b = (b, false) := by unfold mC4; rw [h3]; exact if_neg (fun q => Bool.false_ne_true q.1)
  unfold mC5; rw [h4]; exact mSem_no rfl
theorem kind_in {t : Nat} {T : Nat → Int32} {b : Nat} (h : ¬ mKind t T b < 0) : mKind t T b = mWd t T b ∧ ¬ mWd t T b < 0 ∧ mWd t T b < 6 := by
  unfold mKind at h ⊢
  by_cases e : ¬ mWd t T b < 0 ∧ mWd t T b < 6
  · rw [if_pos e]; exact ⟨rfl, e⟩
  · rw [if_neg e] at h; exact absurd (by decide) h
theorem kind_no {t : Nat} {T : Nat → Int32} {b : Nat} (h : mKind t T b < 0) : ¬ (¬ mWd t T b < 0 ∧ mWd t T b < 6) := fun e => by
  unfold mKind at h; rw [if_pos e] at h; exact e.1 h
theorem mItS_c {t : Nat} {T : Nat → Int32} {n b : Nat} (h : ¬ mWd t T b < 0 ∧ mWd t T b < 6) : mItS t T n b = mC5 t T n b := by
  have hv : ∀ x : Int32, x < 6 → ¬ x = 8 ∧ ¬ x = 9 ∧ ¬ x = 10 ∧ ¬ x = 11 ∧ ¬ x = 12 := fun x hx => by
    refine ⟨?_, ?_, ?_, ?_, ?_⟩ <;> (intro e; rw [e] at hx; revert hx; decide)
  obtain ⟨h8, h9, h10, h11, h12⟩ := hv _ h.2
  unfold mItS
  rw [if_neg h8, if_neg h9, if_neg h10, if_neg h11, if_neg h12]
  by_cases e : n < 8
  · rw [if_pos ⟨h, e⟩, C5_is e]
  · rw [if_neg (fun q => e q.2), C5_no e]
section IT
variable {t n b p q r u te k : Nat} {T : Nat → Int32} {so vl gd g1 g2 g3 : Int32} {wd : Int64}
theorem its_c (hc : TC t T b te so wd vl) (h0 : ¬ mKh so wd < 0) (h5 : mC5 t T n b = (p, gB g1)) : mItS t T n b = (p, gB g1) := by
  rw [kind_iff hc] at h0
  rw [mItS_c (kind_in h0).2]; exact h5
theorem wd_of {w : Nat} (hw13 : w < 13) (hc : TC t T b te so wd vl) (hw : so = 1 ∧ wd = wNum w) : mWd t T b = nI w := (word_iff hc hw13).mp hw
theorem its_8 (hc : TC t T b te so wd vl) (hw : so = 1 ∧ wd = 2968) (hg : ¬ gd = 0) (hA : p = mSk t T te) (n1 : mNum t T 0 39 (p, gB gd) = (q, gB g1)) (n2 : mNum t T 0 31 (q, gB g1) = (r, gB g2)) (hs : mSem t T (r, gB g2) = (u, gB g3)) : mItS t T n b = (u, gB g3) := by
  have hw8 : mWd t T b = 8 := wd_of (w := 8) (by decide) hc hw
  unfold mItS; rw [if_pos hw8, ← mNx_of hc hA, ← gB_t hg, n1, n2]; exact hs
theorem its_9 (hc : TC t T b te so wd vl) (hw : so = 1 ∧ wd = 380630) (hg : ¬ gd = 0) (hA : p = mSk t T te) (n1 : mNum t T 0 (nI n - 1) (p, gB gd) = (q, gB g1)) (n2 : mNum t T 0 20 (q, gB g1) = (r, gB g2)) (hs : mSem t T (r, gB g2) = (u, gB g3)) : mItS t T n b = (u, gB g3) := by
  have hw9 : mWd t T b = 9 := wd_of (w := 9) (by decide) hc hw
  unfold mItS; rw [if_neg (by rw [hw9]; decide), if_pos hw9, ← mNx_of hc hA, ← gB_t hg, n1, n2]; exact hs
theorem its_10 (hc : TC t T b te so wd vl) (hw : so = 1 ∧ wd = 10927033) (hg : ¬ gd = 0) (hA : p = mSk t T te) (n1 : mNum t T 0 40 (p, gB gd) = (q, gB g1)) (hs : mSem t T (q, gB g1) = (u, gB g3)) : mItS t T n b = (u, gB g3) := by
  have hw9 : mWd t T b = 10 := wd_of (w := 10) (by decide) hc hw
  unfold mItS; rw [if_neg (by rw [hw9]; decide), if_neg (by rw [hw9]; decide), if_pos hw9, ← mNx_of hc hA, ← gB_t hg, n1]; exact hs
theorem its_11 (hc : TC t T b te so wd vl) (hw : so = 1 ∧ wd = 283623667) (hg : ¬ gd = 0) {lo hi : Int32} (hl : lo = 1 ∧ hi = 20) (hs : mSem t T (mNum t T lo hi (mNx t T b, gB gd)) = (u, gB g3)) : mItS t T n b = (u, gB g3) := by
  have hw9 : mWd t T b = 11 := wd_of (w := 11) (by decide) hc hw
  unfold mItS; rw [if_neg (by rw [hw9]; decide), if_neg (by rw [hw9]; decide), if_neg (by rw [hw9]; decide), if_pos hw9, ← gB_t hg, ← hl.1, ← hl.2]; exact hs
theorem its_12 (hc : TC t T b te so wd vl) (hw : so = 1 ∧ wd = 247664) (hg : ¬ gd = 0) {lo hi : Int32} (hl : lo = 2 ∧ hi = 30) (hs : mSem t T (mNum t T lo hi (mNx t T b, gB gd)) = (u, gB g3)) : mItS t T n b = (u, gB g3) := by
  have hw9 : mWd t T b = 12 := wd_of (w := 12) (by decide) hc hw
  unfold mItS; rw [if_neg (by rw [hw9]; decide), if_neg (by rw [hw9]; decide), if_neg (by rw [hw9]; decide), if_neg (by rw [hw9]; decide), if_pos hw9, ← gB_t hg, ← hl.1, ← hl.2]; exact hs
theorem its_n (hc : TC t T b te so wd vl) (h0 : mKh so wd < 0) (h8 : ¬ (so = 1 ∧ wd = 2968)) (h9 : ¬ (so = 1 ∧ wd = 380630)) (h10 : ¬ (so = 1 ∧ wd = 10927033)) (h11 : ¬ (so = 1 ∧ wd = 283623667)) (h12 : ¬ (so = 1 ∧ wd = 247664)) : mItS t T n b = (b, gB 0) := by
  rw [kind_iff hc] at h0
  unfold mItS
  rw [if_neg (show ¬ mWd t T b = 8 from fun e => h8 ((word_iff hc (w := 8) (by decide)).mpr e)), if_neg (show ¬ mWd t T b = 9 from fun e => h9 ((word_iff hc (w := 9) (by decide)).mpr e)), if_neg (show ¬ mWd t T b = 10 from fun e => h10 ((word_iff hc (w := 10) (by decide)).mpr e)), if_neg (show ¬ mWd t T b = 11 from fun e => h11 ((word_iff hc (w := 11) (by decide)).mpr e)), if_neg (show ¬ mWd t T b = 12 from fun e => h12 ((word_iff hc (w := 12) (by decide)).mpr e)), if_neg (fun e => kind_no h0 e.1), gB_0]
end IT
/-- the reference's told school: how many children, children, SICK, EVENTS, LAWS, TODAY -/
abbrev RF := Nat × (Nat → Int32) × (Nat → Int32) × (Nat → Int32) × (Nat → Int32) × Int32
def opR (w x y z : Int32) (F : RF) : RF :=
  if w = 8 then (F.1, F.2.1, F.2.2.1, upd F.2.2.2.1 x.toNatClampNeg y, F.2.2.2.2.1, F.2.2.2.2.2)
  else if w = 9 then (F.1, F.2.1, upd F.2.2.1 x.toNatClampNeg y, F.2.2.2.1, F.2.2.2.2.1, F.2.2.2.2.2)
  else if w = 10 then (F.1, F.2.1, F.2.2.1, F.2.2.2.1, F.2.2.2.2.1, x)
  else if w = 11 then (F.1, F.2.1, F.2.2.1, F.2.2.2.1, upd F.2.2.2.2.1 0 x, F.2.2.2.2.2)
  else if w = 12 then (F.1, F.2.1, F.2.2.1, F.2.2.2.1, upd F.2.2.2.2.1 1 x, F.2.2.2.2.2)
  else (F.1 + 1, mPutK F.2.1 F.1 w x y z, upd F.2.2.1 F.1 0, F.2.2.2.1, F.2.2.2.2.1, F.2.2.2.2.2)
theorem Zr_is {t : Nat} {T : Nat → Int32} {n b : Nat} (h : n < 8) (h5 : (mC5 t T n b).2 = true) : mZr t T n b = mItZ t T b := by
  have e0 : mC3 t T n b = mNum t T 0 5 (mWrd t T 6 (mNum t T 0 9 (mNx t T b, true))) := by
    unfold mC3 mC2 mC1 mC0; rw [if_pos h]
  unfold mItZ
  rw [← e0]
  unfold mZr mZf
  unfold mC5 mC4 at h5
  by_cases e : mWd t T (mC3 t T n b).1 = 7
  · rw [if_pos e, if_pos (mWd_lt (w := 7) (by decide) e)]
    by_cases e2 : (mC3 t T n b).2 = true
    · unfold mWrd; rw [if_pos ⟨e2, e⟩]
    · rw [if_neg (fun q => e2 q.1), mSem_no (Bool.eq_false_iff.mpr e2)] at h5; exact absurd h5 Bool.false_ne_true
  · rw [if_neg e]
    rw [if_neg (fun q => e q.2)] at h5
    by_cases e2 : (mC3 t T n b).2 = true ∧ mByte t T (mC3 t T n b).1 = 59
    · rw [if_neg (fun q => by
        unfold mLt at q
        exact absurd ((i32_facts _).2.2.2.1 e2.2).2.1 (of_decide_eq_true q).1)]
    · unfold mSem at h5; rw [if_neg e2] at h5; exact absurd h5 Bool.false_ne_true
section OR
variable {t fc fc2 b p q r u te k : Nat} {T ch si ev lw ch2 si2 lw2 : Nat → Int32} {so vl gd g1 g2 g3 td x y : Int32} {wd : Int64}
theorem opr_c (hc : TC t T b te so wd vl) (h0 : ¬ mKh so wd < 0) (h5 : mC5 t T fc b = (p, gB g1)) (hp : g1 = 0 ∨ (fc2 = fc + 1 ∧ ch2 = mPutK ch fc (mKh so wd) (mV t T (mC0 t T fc b).1) (mV t T (mC2 t T fc b).1) (mZr t T fc b) ∧ si2 = upd si fc 0)) : g1 = 0 ∨ (fc2, ch2, si2, ev, lw, td) = opR (mWd t T b) (mItX t T b) (mItY t T fc b) (mItZ t T b) (fc, ch, si, ev, lw, td) := by
  by_cases e : g1 = 0
  · exact Or.inl e
  · refine Or.inr ?_
    obtain ⟨a1, a2, a3⟩ := hp.resolve_left e
    rw [kind_iff hc] at h0 a2
    obtain ⟨k1, k2⟩ := kind_in h0
    have h8 : fc < 8 := by
      by_cases e8 : fc < 8
      · exact e8
      · have e9 := (C5_no e8).symm.trans h5
        have e10 : false = gB g1 := congrArg Prod.snd e9
        rw [gB_t e] at e10; cases e10
    have hz : mZr t T fc b = mItZ t T b := Zr_is h8 (by rw [h5]; exact gB_t e)
    have hv : ∀ x : Int32, x < 6 → ¬ x = 8 ∧ ¬ x = 9 ∧ ¬ x = 10 ∧ ¬ x = 11 ∧ ¬ x = 12 := fun x hx => by
      refine ⟨?_, ?_, ?_, ?_, ?_⟩ <;> (intro e; rw [e] at hx; revert hx; decide)
    obtain ⟨q8, q9, q10, q11, q12⟩ := hv _ k2.2
    unfold opR
    rw [if_neg q8, if_neg q9, if_neg q10, if_neg q11, if_neg q12, a1, a2, a3, k1, hz]
    have y1 : mItY t T fc b = mV t T (mC2 t T fc b).1 := by
      unfold mItY mC2 mC1 mC0; rw [if_neg q8, if_neg q9, if_pos h8]
    have x1 : mItX t T b = mV t T (mC0 t T fc b).1 := by
      unfold mItX mC0; rw [if_pos h8]
    rw [y1, x1]
theorem opr_8 (hc : TC t T b te so wd vl) (hw : so = 1 ∧ wd = 2968) (hg : ¬ gd = 0) (hA : p = mSk t T te) (n1 : mNum t T 0 39 (p, gB gd) = (q, gB g1)) (hv1 : g1 = 0 ∨ nI k = mV t T p) (hk : k ≤ 39) (hv2 : g2 = 0 ∨ y = mV t T q) (hg1 : ¬ g1 = 0) (hg2 : ¬ g2 = 0) : (fc, ch, si, upd ev k y, lw, td) = opR (mWd t T b) (mItX t T b) (mItY t T fc b) (mItZ t T b) (fc, ch, si, ev, lw, td) := by
  have hw8 : mWd t T b = 8 := wd_of (w := 8) (by decide) hc hw
  have x1 : mItX t T b = nI k := by unfold mItX; rw [← mNx_of hc hA]; exact (hv1.resolve_left hg1).symm
  have y1 : mItY t T fc b = y := by
    unfold mItY; rw [if_pos hw8, ← mNx_of hc hA, ← gB_t hg, n1]; exact (hv2.resolve_left hg2).symm
  unfold opR
  rw [if_pos hw8, x1, y1, nI_clamp (by omega)]
theorem opr_9 (hc : TC t T b te so wd vl) (hw : so = 1 ∧ wd = 380630) (hg : ¬ gd = 0) (hA : p = mSk t T te) (n1 : mNum t T 0 (nI fc - 1) (p, gB gd) = (q, gB g1)) (hv1 : g1 = 0 ∨ nI k = mV t T p) (hk : k < fc) (hfc : fc ≤ 8) (hv2 : g2 = 0 ∨ y = mV t T q) (hg1 : ¬ g1 = 0) (hg2 : ¬ g2 = 0) : (fc, ch, upd si k y, ev, lw, td) = opR (mWd t T b) (mItX t T b) (mItY t T fc b) (mItZ t T b) (fc, ch, si, ev, lw, td) := by
  have hw9 : mWd t T b = 9 := wd_of (w := 9) (by decide) hc hw
  have x1 : mItX t T b = nI k := by unfold mItX; rw [← mNx_of hc hA]; exact (hv1.resolve_left hg1).symm
  have y1 : mItY t T fc b = y := by
    unfold mItY; rw [if_neg (by rw [hw9]; decide), if_pos hw9, ← mNx_of hc hA, ← gB_t hg, n1]; exact (hv2.resolve_left hg2).symm
  unfold opR
  rw [if_neg (by rw [hw9]; decide), if_pos hw9, x1, y1, nI_clamp (by omega)]
theorem opr_10 (hc : TC t T b te so wd vl) (hw : so = 1 ∧ wd = 10927033) (hA : p = mSk t T te) (hv1 : g1 = 0 ∨ x = mV t T p) (hgg : g2 = 0 ∨ ¬ g1 = 0) : g2 = 0 ∨ (fc, ch, si, ev, lw, x) = opR (mWd t T b) (mItX t T b) (mItY t T fc b) (mItZ t T b) (fc, ch, si, ev, lw, td) := by
  have hw9 : mWd t T b = 10 := wd_of (w := 10) (by decide) hc hw
  by_cases e : g2 = 0
  · exact Or.inl e
  · refine Or.inr ?_
    have x1 : mItX t T b = x := by unfold mItX; rw [← mNx_of hc hA]; exact (hv1.resolve_left (hgg.resolve_left e)).symm
    unfold opR
    rw [if_neg (by rw [hw9]; decide), if_neg (by rw [hw9]; decide), if_pos hw9, x1]
theorem opr_11 (hc : TC t T b te so wd vl) (hw : so = 1 ∧ wd = 283623667) (hv : g2 = 0 ∨ lw2 = upd lw 0 (mV t T (mNx t T b))) : g2 = 0 ∨ (fc, ch, si, ev, lw2, td) = opR (mWd t T b) (mItX t T b) (mItY t T fc b) (mItZ t T b) (fc, ch, si, ev, lw, td) := by
  have hw9 : mWd t T b = 11 := wd_of (w := 11) (by decide) hc hw
  by_cases e : g2 = 0
  · exact Or.inl e
  · refine Or.inr ?_
    unfold opR
    rw [if_neg (by rw [hw9]; decide), if_neg (by rw [hw9]; decide), if_neg (by rw [hw9]; decide), if_pos hw9, hv.resolve_left e]; rfl
theorem opr_12 (hc : TC t T b te so wd vl) (hw : so = 1 ∧ wd = 247664) (hv : g2 = 0 ∨ lw2 = upd lw 1 (mV t T (mNx t T b))) : g2 = 0 ∨ (fc, ch, si, ev, lw2, td) = opR (mWd t T b) (mItX t T b) (mItY t T fc b) (mItZ t T b) (fc, ch, si, ev, lw, td) := by
  have hw9 : mWd t T b = 12 := wd_of (w := 12) (by decide) hc hw
  by_cases e : g2 = 0
  · exact Or.inl e
  · refine Or.inr ?_
    unfold opR
    rw [if_neg (by rw [hw9]; decide), if_neg (by rw [hw9]; decide), if_neg (by rw [hw9]; decide), if_neg (by rw [hw9]; decide), if_pos hw9, hv.resolve_left e]; rfl
end OR
def LwOk (lo hi : Nat → Int32) : Prop := (lo 0 = 1 ∧ lo 1 = 2 ∧ lo 2 = 1 ∧ lo 3 = 1) ∧ (hi 0 = 20 ∧ hi 1 = 30 ∧ hi 2 = 8 ∧ hi 3 = 20)
theorem LwOk.a {lo hi : Nat → Int32} (h : LwOk lo hi) : lo 0 = 1 ∧ hi 0 = 20 := ⟨h.1.1, h.2.1⟩
theorem LwOk.b {lo hi : Nat → Int32} (h : LwOk lo hi) : lo 1 = 2 ∧ hi 1 = 30 := ⟨h.1.2.1, h.2.2.1⟩
theorem LwOk.a0 {lo hi : Nat → Int32} (h : LwOk lo hi) : -1 < lo 0 := by rw [h.1.1]; decide
theorem LwOk.b0 {lo hi : Nat → Int32} (h : LwOk lo hi) : -1 < lo 1 := by rw [h.1.2.1]; decide
def mTellR (t : Nat) (T ch si lw : Nat → Int32) : RF × MP := mLoop Prod.fst opR t T 240 (0, ch, si, (fun _ => 0), lw, 0) (mSk t T 0, true)
theorem fill_0 {X G : Nat → Int32} : ∀ i : Nat, i < 0 → X i = G i := fun i hi => absurd hi (Nat.not_lt_zero i)
theorem fill_s {X G : Nat → Int32} {k : Nat} {v : Int32} (h : ∀ i : Nat, i < k → X i = G i) (hv : v = G k) : ∀ i : Nat, i < k + 1 → upd X k v i = G i := fun i hi => by
  by_cases e : i = k
  · rw [e, upd_is]; exact hv
  · rw [upd_ne _ _ e]; exact h i (by omega)
def RowS (f si : Nat → Int32) (td : Int32) (k : Nat) : Prop := f 0 = td ∧ (∀ c, c < k → f (1 + c) = si c) ∧ ∀ i, 9 ≤ i → i < 25 → f i = 0
theorem RowS_0 {f si : Nat → Int32} {td : Int32} {k : Nat} (hk : 25 ≤ k) (h : ∀ i : Nat, i < k → f i = 0) : RowS (upd f 0 td) si td 0 :=
  ⟨upd_is _ _ _, fun c hc => absurd hc (Nat.not_lt_zero c), fun i h1 h2 => by rw [upd_ne _ _ (by omega)]; exact h i (by omega)⟩
theorem RowS_s {f si : Nat → Int32} {td : Int32} {k : Nat} (hk : k < 8) (h : RowS f si td k) : RowS (upd f (1 + k) (si k)) si td (k + 1) := by
  refine ⟨by rw [upd_ne _ _ (by omega)]; exact h.1, fun c hc => ?_, fun i h1 h2 => by rw [upd_ne _ _ (by omega)]; exact h.2.2 i h1 h2⟩
  by_cases e : c = k
  · rw [e, upd_is]
  · rw [upd_ne _ _ (by omega)]; exact h.2.1 c (by omega)
theorem RowS_le {f si : Nat → Int32} {td : Int32} {k n : Nat} (hk : n ≤ k) (h : RowS f si td k) : RowS f si td n := ⟨h.1, fun c hc => h.2.1 c (by omega), h.2.2⟩
section SC
variable {t fc bg te : Nat} {T c0 s0 l0 ch si ev lw : Nat → Int32} {so vl gd g2 ft : Int32} {wd : Int64}
/-- the loop of the reference's reader: where it stands -/
def LpR (t : Nat) (T c0 s0 l0 : Nat → Int32) (F2 : RF) (bg : Nat) (gd : Int32) : Prop := ∃ (k : Nat) (F : RF), mTellR t T c0 s0 l0 = mLoop Prod.fst opR t T k F (bg, gB gd) ∧ (¬ gd = 0 → F = F2 ∧ t - bg ≤ k)
def LpE (t : Nat) (T c0 s0 l0 : Nat → Int32) (F2 : RF) (bg : Nat) (gd : Int32) : Prop := ∃ F : RF, mTellR t T c0 s0 l0 = (F, (bg, gB gd)) ∧ (¬ gd = 0 → F = F2)
theorem LpR_0 (ht : t ≤ 240) (h : bg = mSk t T 0) : LpR t T c0 s0 l0 (0, c0, s0, (fun _ => 0), l0, 0) bg 1 :=
  ⟨240, (0, c0, s0, (fun _ => 0), l0, 0), by rw [h, gB_1]; rfl, fun _ => ⟨rfl, by omega⟩⟩
theorem LpR_s {F2 F3 : RF} {p : Nat} (h : LpR t T c0 s0 l0 F2 bg gd) (hT : TapOk T) (hc : TC t T bg te so wd vl) (hg : ¬ gd = 0) (hs : ¬ so = 0) (hi : mItS t T F2.1 bg = (p, gB g2)) (hp : g2 = 0 ∨ bg < p) (hF : g2 = 0 ∨ F3 = opR (mWd t T bg) (mItX t T bg) (mItY t T F2.1 bg) (mItZ t T bg) F2) : LpR t T c0 s0 l0 F3 p g2 := by
  obtain ⟨k, F, h1, h2⟩ := h
  obtain ⟨h3, h4⟩ := h2 hg
  subst h3
  have hbt : bg < t := by
    by_cases e : bg < t
    · exact e
    · refine absurd ?_ hs
      rw [hc.2.1]; exact mSrt_0 (by rw [mByte_ge e]; decide)
  obtain ⟨j, rfl⟩ : ∃ j, k = j + 1 := ⟨k - 1, by omega⟩
  rw [mLoop_s ⟨gB_t hg, hbt⟩, hi] at h1
  refine ⟨j, _, h1, fun hg2 => ⟨(hF.resolve_left hg2).symm, ?_⟩⟩
  have := hp.resolve_left hg2
  omega
theorem LpE_of {F2 : RF} (h : LpR t T c0 s0 l0 F2 bg gd) (hT : TapOk T) (hc : TC t T bg te so wd vl) (hx : gd = 0 ∨ so = 0) : LpE t T c0 s0 l0 F2 bg gd := by
  obtain ⟨k, F, h1, h2⟩ := h
  refine ⟨F, ?_, fun hg => (h2 hg).1⟩
  rw [h1, mLoop_x (fun q => ?_)]
  rcases hx with e | e
  · have q1 : gB gd = true := q.1
    rw [gB_f e] at q1; cases q1
  · have q2 : bg < t := q.2
    rcases mSrt_cases t T bg with ⟨e1, e2, _⟩ | ⟨e1, _⟩ | ⟨e1, _⟩ | ⟨e1, _⟩
    · rw [mByte_lt q2] at e2; exact hT _ e2
    · rw [hc.2.1, e1] at e; revert e; decide
    · rw [hc.2.1, e1] at e; revert e; decide
    · rw [hc.2.1, e1] at e; revert e; decide
theorem SA_y {F2 : RF} (h : LpE t T c0 s0 l0 F2 bg gd) (hg : ¬ gd = 0) : nI F2.1 = if (mTellR t T c0 s0 l0).2.2 = true then nI (mTellR t T c0 s0 l0).1.1 else -100 - nI (mTellR t T c0 s0 l0).2.1 := by
  obtain ⟨F, h1, h2⟩ := h
  rw [h1, h2 hg, if_pos (gB_t hg)]
theorem SA_n {F2 : RF} (h : LpE t T c0 s0 l0 F2 bg gd) (hg : gd = 0) : -100 - nI bg = if (mTellR t T c0 s0 l0).2.2 = true then nI (mTellR t T c0 s0 l0).1.1 else -100 - nI (mTellR t T c0 s0 l0).2.1 := by
  obtain ⟨F, h1, h2⟩ := h
  rw [h1, if_neg (show ¬ gB gd = true from by rw [gB_f hg]; decide)]
theorem SB_y {F2 : RF} {P : RF → Prop} (h : LpE t T c0 s0 l0 F2 bg gd) (hg : ¬ gd = 0) (hP : P F2) : (mTellR t T c0 s0 l0).2.2 = true → P (mTellR t T c0 s0 l0).1 := by
  obtain ⟨F, h1, h2⟩ := h
  rw [h1, h2 hg]; exact fun _ => hP
theorem SB_n {F2 : RF} {P : Prop} (h : LpE t T c0 s0 l0 F2 bg gd) (hg : gd = 0) : (mTellR t T c0 s0 l0).2.2 = true → P := by
  obtain ⟨F, h1, h2⟩ := h
  rw [h1]
  intro q
  have q1 : gB gd = true := q
  rw [gB_f hg] at q1; cases q1
theorem SC_y {F2 : RF} {P : Prop} (h : LpE t T c0 s0 l0 F2 bg gd) (hg : ¬ gd = 0) : (mTellR t T c0 s0 l0).2.2 = false → P := by
  obtain ⟨F, h1, h2⟩ := h
  rw [h1]
  intro q
  have q1 : gB gd = false := q
  rw [gB_t hg] at q1; cases q1
end SC
/-- the reference's world behind a told school -/
def SchR (F : RF) (n : Nat) (ch row ev cr tr lw : Nat → Int32) (q : Nat) : Prop := n = F.1 ∧ ch = F.2.1 ∧ RowS row F.2.2.1 F.2.2.2.2.2 F.1 ∧ ev = F.2.2.2.1 ∧ cr = (fun _ => 0) ∧ tr = (fun _ => 0) ∧ lw = F.2.2.2.2.1 ∧ q = 0
/-! the class's reader -/
/-- where the class's reader stands: before a token, or at its fault -/
def mAl (t : Nat) (T : Nat → Int32) (po : Nat) (ft : Int32) : MP := if ft < 0 then (mSk t T po, true) else (ft.toNatClampNeg, false)
theorem mAl_t {t po : Nat} {T : Nat → Int32} {ft : Int32} (h : ft < 0) : mAl t T po ft = (mSk t T po, true) := by unfold mAl; rw [if_pos h]
theorem mAl_f {t po : Nat} {T : Nat → Int32} {ft : Int32} (h : ¬ ft < 0) : mAl t T po ft = (ft.toNatClampNeg, false) := by unfold mAl; rw [if_neg h]
theorem val_0 {T : Nat → Int32} {b : Nat} : 0 = mVal T b (b - b) := by rw [Nat.sub_self]; rfl
theorem val_s {T : Nat → Int32} {b p : Nat} {v : Int32} (h : v = mVal T b (p - b)) (hb : b ≤ p) : v * 10 + (T p - 48) = mVal T b (p + 1 - b) := by
  rw [show p + 1 - b = (p - b) + 1 from by omega]
  show _ = mVal T b (p - b) * 10 + (T (b + (p - b)) - 48)
  rw [h, show b + (p - b) = p from by omega]
section CN
variable {t po po2 mk : Nat} {T : Nat → Int32} {lo hi v r ft ft2 : Int32}
theorem mNokF (hd : po = mDe t T mk) (hv : v = mVal T mk (po - mk)) (h : po = mk ∨ mk + 2 < po ∨ v < lo ∨ hi < v) : mNok t T lo hi mk = false := by
  refine Bool.eq_false_iff.mpr (fun q => ?_)
  unfold mNok at q
  rw [Bool.and_eq_true, Bool.and_eq_true] at q
  have q1 := mDe_1 q.1.1
  have q2 := of_decide_eq_true q.1.2
  have q3 := of_decide_eq_true q.2
  have e : mV t T mk = v := by rw [hv, hd]; rfl
  rw [e] at q3
  rcases h with h | h | h | h
  · omega
  · omega
  · exact q3.1 h
  · exact q3.2 h
theorem mNokT (hd : po = mDe t T mk) (hv : v = mVal T mk (po - mk)) (h1 : ¬ po = mk) (h2 : ¬ mk + 2 < po) (h3 : ¬ v < lo) (h4 : v ≤ hi) : mNok t T lo hi mk = true := by
  have e : mV t T mk = v := by rw [hv, hd]; rfl
  have e2 : mDg t T mk = true := by
    by_cases q : mDg t T mk = true
    · exact q
    · rw [mDe_0 (Bool.eq_false_iff.mpr q)] at hd; exact absurd hd h1
  unfold mNok
  rw [e, e2, decide_eq_true (show mDe t T mk ≤ mk + 2 by omega), decide_eq_true (show ¬ v < lo ∧ ¬ hi < v from ⟨h3, Int32.not_lt.mpr h4⟩)]; rfl
theorem AlNum_f (hm : mk = mSk t T po) (hk : mk ≤ 240) (hn : mNok t T lo hi mk = false) (hf : (¬ ft < 0 ∧ ft2 = ft) ∨ (ft < 0 ∧ ft2 = nI mk)) : mAl t T po2 ft2 = mNum t T lo hi (mAl t T po ft) := by
  rcases hf with ⟨h1, h2⟩ | ⟨h1, h2⟩
  · rw [h2, mAl_f h1, mAl_f h1, mNum_no rfl]
  · rw [h2, mAl_f (nI_pos (by omega)), mAl_t h1, nI_clamp (by omega)]
    unfold mNum
    rw [if_neg (by rw [← hm, hn]; simp), hm]
theorem AlNum_t (hm : mk = mSk t T po) (hd : po2 = mDe t T mk) (hn : mNok t T lo hi mk = true) : mAl t T po2 ft = mNum t T lo hi (mAl t T po ft) := by
  by_cases h : ft < 0
  · rw [mAl_t h, mAl_t h]
    unfold mNum
    rw [if_pos ⟨rfl, by rw [← hm]; exact hn⟩, ← hm, hd]
    unfold mNx
    unfold mNok at hn
    rw [Bool.and_eq_true, Bool.and_eq_true] at hn
    rw [mTe_2 hn.1.1]
  · rw [mAl_f h, mAl_f h, mNum_no rfl]
theorem AlV_f {x y : Int32} (hk : mk ≤ 240) (hf : (¬ ft < 0 ∧ ft2 = ft) ∨ (ft < 0 ∧ ft2 = nI mk)) : ft2 < 0 → x = y := fun q => by
  rcases hf with ⟨h1, h2⟩ | ⟨h1, h2⟩
  · rw [h2] at q; exact absurd q h1
  · rw [h2] at q; exact absurd q (nI_pos (by omega))
theorem AlV_n {x y : Int32} (h : 0 ≤ ft) : ft < 0 → x = y := fun q => absurd q (Int32.not_lt.mpr h)
theorem AlV_t (hm : mk = mSk t T po) (hd : po2 = mDe t T mk) (hv : v = mVal T mk (po2 - mk)) : ft < 0 → v = mV t T (mAl t T po ft).1 := fun q => by
  rw [mAl_t q, hv, hd]
  show _ = mV t T (mSk t T po)
  rw [← hm]; rfl
end CN
theorem isW_no {T : Nat → Int32} {b e w : Nat} (h : ¬ nI e - nI b = nI (lenS.getD w 0)) (hb : b ≤ e) : mIsW T b e w = false := by
  unfold mIsW
  rw [decide_eq_false (fun q => h (by rw [pk_sub hb, show e - b = lenS.getD w 0 from by omega]))]; rfl
theorem isW_ne {T : Nat → Int32} {b e w k : Nat} (hk : k < lenS.getD w 0) (h : ¬ T (b + k) = chS w k) : mIsW T b e w = false := by
  unfold mIsW
  rw [mAll_no (k := k) (decide_eq_false h) _ hk, Bool.and_false]
theorem isW_yes {T : Nat → Int32} {b e w k : Nat} (he : e = b + lenS.getD w 0) (hk : lenS.getD w 0 ≤ k) (hk2 : k ≤ lenS.getD w 0) (h : mAll (fun i => decide (T (b + i) = chS w i)) k = true) : mIsW T b e w = true := by
  unfold mIsW
  rw [decide_eq_true he, show lenS.getD w 0 = k from by omega, h]; rfl
theorem all_s {ok : Nat → Bool} {k : Nat} (h : mAll ok k = true) (h2 : ok k = true) : mAll ok (k + 1) = true := by
  unfold mAll; rw [h, h2]; rfl
theorem ifb_f {b : Bool} (h : b = false) : (0 : Int32) = if b = true then 1 else 0 := by rw [h]; rfl
theorem ifb_t {b : Bool} (h : b = true) : (1 : Int32) = if b = true then 1 else 0 := by rw [h]; rfl
theorem wd_end {t k mk po : Nat} {T : Nat → Int32} (hm : mk = mSk t T po) {pe : Nat} (hl : pe = mLe t T mk) (h : mFw (mIsW T mk pe) k = -1) (hk : 13 ≤ k) (hk2 : k ≤ 13) : -1 = mWd t T (mSk t T po) := by
  rw [← hm]; unfold mWd; rw [← hl, show 13 = k from by omega]; exact h.symm
theorem wd_at {t k mk po : Nat} {T : Nat → Int32} (hm : mk = mSk t T po) {pe : Nat} (hl : pe = mLe t T mk) (h : mFw (mIsW T mk pe) k = -1) (hk : ¬ 13 ≤ k) (hw : mIsW T mk pe k = true) : nI k = mWd t T (mSk t T po) := by
  rw [← hm]; unfold mWd; rw [← hl]; exact (mFw_at (by omega) h hw 13 (by omega)).symm
/-- the class's told school -/
abbrev MF := Nat × (Nat → Int32) × (Nat → Int32) × (Nat → Int32) × (Nat → Int32) × (Nat → Int32) × (Nat → Int32) × (Nat → Int32) × (Nat → Int32) × (Nat → Int32) × Int32
def mfE (F : MF) (f : (Nat → Int32) → Nat → Int32) : MF := (F.1, F.2.1, F.2.2.1, F.2.2.2.1, F.2.2.2.2.1, F.2.2.2.2.2.1, F.2.2.2.2.2.2.1, F.2.2.2.2.2.2.2.1, f F.2.2.2.2.2.2.2.2.1, F.2.2.2.2.2.2.2.2.2.1, F.2.2.2.2.2.2.2.2.2.2)
def mfS (F : MF) (f : (Nat → Int32) → Nat → Int32) : MF := (F.1, F.2.1, F.2.2.1, F.2.2.2.1, F.2.2.2.2.1, f F.2.2.2.2.2.1, F.2.2.2.2.2.2.1, F.2.2.2.2.2.2.2.1, F.2.2.2.2.2.2.2.2.1, F.2.2.2.2.2.2.2.2.2.1, F.2.2.2.2.2.2.2.2.2.2)
def mfL (F : MF) (f : (Nat → Int32) → Nat → Int32) : MF := (F.1, F.2.1, F.2.2.1, F.2.2.2.1, F.2.2.2.2.1, F.2.2.2.2.2.1, F.2.2.2.2.2.2.1, F.2.2.2.2.2.2.2.1, F.2.2.2.2.2.2.2.2.1, f F.2.2.2.2.2.2.2.2.2.1, F.2.2.2.2.2.2.2.2.2.2)
def mfT (F : MF) (x : Int32) : MF := (F.1, F.2.1, F.2.2.1, F.2.2.2.1, F.2.2.2.2.1, F.2.2.2.2.2.1, F.2.2.2.2.2.2.1, F.2.2.2.2.2.2.2.1, F.2.2.2.2.2.2.2.2.1, F.2.2.2.2.2.2.2.2.2.1, x)
def mfA (F : MF) (w x y z : Int32) : MF := (F.1 + 1, upd F.2.1 F.1 w, upd F.2.2.1 F.1 x, upd F.2.2.2.1 F.1 y, upd F.2.2.2.2.1 F.1 z, upd F.2.2.2.2.2.1 F.1 0, upd F.2.2.2.2.2.2.1 F.1 0, upd F.2.2.2.2.2.2.2.1 F.1 0, F.2.2.2.2.2.2.2.2.1, F.2.2.2.2.2.2.2.2.2.1, F.2.2.2.2.2.2.2.2.2.2)
def opC (w x y z : Int32) (F : MF) : MF :=
  if w = 8 then mfE F (fun e => upd e x.toNatClampNeg y)
  else if w = 9 then mfS F (fun e => upd e x.toNatClampNeg y)
  else if w = 10 then mfT F x
  else if w = 11 then mfL F (fun e => upd e 0 x)
  else if w = 12 then mfL F (fun e => upd e 1 x)
  else mfA F w x y z
/-- an item without its last mark -/
def mItB (t : Nat) (T : Nat → Int32) (n b : Nat) : MP :=
  if mWd t T b = 8 then mNum t T 0 31 (mNum t T 0 39 (mNx t T b, true))
  else if mWd t T b = 9 then mNum t T 0 20 (mNum t T 0 (nI n - 1) (mNx t T b, true))
  else if mWd t T b = 10 then mNum t T 0 40 (mNx t T b, true)
  else if mWd t T b = 11 then mNum t T 1 20 (mNx t T b, true)
  else if mWd t T b = 12 then mNum t T 2 30 (mNx t T b, true)
  else if (¬ mWd t T b < 0 ∧ mWd t T b < 6) ∧ n < 8 then mFar t T (mNum t T 0 5 (mWrd t T 6 (mNum t T 0 9 (mNx t T b, true))))
  else (b, false)
theorem mItS_B (t : Nat) (T : Nat → Int32) (n b : Nat) : mItS t T n b = mSem t T (mItB t T n b) := by
  unfold mItS mItB
  repeat' split
  all_goals first | rfl | exact (mSem_no rfl).symm
theorem mFar_f {t : Nat} {T : Nat → Int32} {s : MP} (h : s.2 = false) : mFar t T s = s := by
  have e : (s.1, false) = s := by rw [← h]
  unfold mFar
  by_cases q : mLt t T s.1 = true
  · rw [if_pos q, mWrd_no h, mNum_no rfl]; exact e
  · rw [if_neg q]
section CR
variable {t n b po po1 po2 po3 mk k w : Nat} {T ev : Nat → Int32} {r r1 r2 ft ft1 ft2 ft3 : Int32} {A M : MP}
/-- behind a name -/
theorem Al_word (hm : mk = mSk t T po) (hp : po1 = mLe t T mk) (hr : r = mWd t T (mSk t T po)) (hw13 : w < 13) (hw : r = nI w) (hft : ft < 0) : mAl t T po1 ft = (mNx t T (mSk t T po), true) := by
  have h1 : mLt t T mk = true := mWd_lt hw13 (by rw [hm, ← hr]; exact hw)
  rw [mAl_t hft, hp, ← hm]
  unfold mNx
  rw [mTe_1 h1]
theorem Al_wrd_y (hm : mk = mSk t T po) (hp : po1 = mLe t T mk) (hr : r = mWd t T (mSk t T po)) (hw13 : w < 13) (hw : r = nI w) : mAl t T po1 ft = mWrd t T w (mAl t T po ft) := by
  by_cases hft : ft < 0
  · rw [Al_word hm hp hr hw13 hw hft, mAl_t hft]
    unfold mWrd
    rw [if_pos ⟨rfl, hr.symm.trans hw⟩]
  · rw [mAl_f hft, mAl_f hft, mWrd_no rfl]
theorem Al_wrd_n (hm : mk = mSk t T po) (hk : mk ≤ 240) (hr : r = mWd t T (mSk t T po)) (hw : ¬ r = nI w) (hf : (¬ ft < 0 ∧ ft2 = ft) ∨ (ft < 0 ∧ ft2 = nI mk)) : mAl t T po1 ft2 = mWrd t T w (mAl t T po ft) := by
  rcases hf with ⟨h1, h2⟩ | ⟨h1, h2⟩
  · rw [h2, mAl_f h1, mAl_f h1, mWrd_no rfl]
  · rw [h2, mAl_f (nI_pos (by omega)), mAl_t h1, nI_clamp (by omega)]
    unfold mWrd
    rw [if_neg (fun q => hw (hr.trans q.2)), hm]
theorem Al_sk (hp : po ≤ t) (h : po1 = mSk t T po) : mAl t T po1 ft = mAl t T po ft := by
  by_cases hft : ft < 0
  · rw [mAl_t hft, mAl_t hft, h, mSk_sk hp]
  · rw [mAl_f hft, mAl_f hft]
theorem Al_sem_y (hp : po ≤ t) (hs : po1 = mSk t T po) (hin : po1 < t) (hb : T po1 = 59) : mAl t T (po1 + 1) ft = mSem t T (mAl t T po ft) := by
  by_cases hft : ft < 0
  · have h59 : mByte t T po1 = 59 := by rw [mByte_lt hin]; exact hb
    have hf := (i32_facts (mByte t T po1)).2.2.2.1 h59
    have h1 : mLt t T po1 = false := mLt_f (fun q => q.1 hf.2.1)
    have h2 : mDg t T po1 = false := mDg_f (fun q => q.2 hf.1)
    rw [mAl_t hft, mAl_t hft, ← hs]
    unfold mSem
    rw [if_pos ⟨rfl, h59⟩]
    unfold mNx
    rw [mTe_0 h1 h2, if_pos hin]
  · rw [mAl_f hft, mAl_f hft, mSem_no rfl]
theorem Al_sem_n (hs : po1 = mSk t T po) (hk : po1 ≤ 240) (hn : ¬ po1 < t ∨ ¬ T po1 = 59) (hf : (¬ ft < 0 ∧ ft2 = ft) ∨ (ft < 0 ∧ ft2 = nI po1)) : mAl t T po2 ft2 = mSem t T (mAl t T po ft) := by
  rcases hf with ⟨h1, h2⟩ | ⟨h1, h2⟩
  · rw [h2, mAl_f h1, mAl_f h1, mSem_no rfl]
  · rw [h2, mAl_f (nI_pos (by omega)), mAl_t h1, nI_clamp (by omega), ← hs]
    unfold mSem
    rw [if_neg (fun q => ?_)]
    have q2 : mByte t T po1 = 59 := q.2
    by_cases e : po1 < t
    · rw [mByte_lt e] at q2; exact (hn.resolve_left (fun x => x e)) q2
    · rw [mByte_ge e] at q2; revert q2; decide
theorem ft_no (hk : mk ≤ 240) (hf : (¬ ft < 0 ∧ ft2 = ft) ∨ (ft < 0 ∧ ft2 = nI mk)) : ¬ ft2 < 0 := by
  rcases hf with ⟨h1, h2⟩ | ⟨_, h2⟩
  · rw [h2]; exact h1
  · rw [h2]; exact nI_pos (by omega)
/-- a DAY or SICK row is told -/
theorem rd_upd {lo hi : Int32} (h1 : mAl t T po1 ft1 = M) (hq : (¬ ft2 < 0 ∧ r2 = 0) ∨ (ft2 < 0 ∧ ft1 < 0 ∧ ¬ r2 < lo ∧ ¬ hi < r2)) (hv1 : ft1 < 0 → nI k = mV t T A.1) (hv2 : ft2 < 0 → r2 = mV t T (mAl t T po1 ft1).1) (hk : k ≤ 240) : ft2 < 0 → upd ev k r2 = upd ev (mV t T A.1).toNatClampNeg (mV t T M.1) := fun q => by
  have q1 : ft1 < 0 := hq.elim (fun h => absurd q h.1) (fun h => h.2.1)
  rw [← hv1 q1, nI_clamp (by omega), ← h1, hv2 q]
end CR
section CH2
variable {t n b po po1 po2 po3 po4 po5 mk k w : Nat} {T : Nat → Int32} {r r3 r5 ft ft2 ft3 ft4 ft5 a v x : Int32} {D A D2 : MP}
theorem far_lt (h3 : mAl t T po3 ft3 = D) (hs : po4 = mSk t T po3) (hin : po4 < t) (hl : ¬ T po4 < 97 ∧ ¬ 122 < T po4) : D.2 = true → mLt t T D.1 = true := fun q => by
  subst h3
  by_cases h : ft3 < 0
  · rw [mAl_t h]
    show mLt t T (mSk t T po3) = true
    rw [← hs]; exact mLt_t (by rw [mByte_lt hin]; exact hl)
  · rw [mAl_f h] at q; exact absurd q Bool.false_ne_true
theorem no_lt (hn : ¬ po4 < t ∨ ¬ (¬ T po4 < 97 ∧ ¬ 122 < T po4)) : mLt t T po4 = false := by
  by_cases e : po4 < t
  · exact mLt_f (by rw [mByte_lt e]; exact hn.resolve_left (fun q => q e))
  · exact mLt_ge e
theorem Al_far_n (hp : po3 ≤ t) (h3 : mAl t T po3 ft3 = D) (hs : po4 = mSk t T po3) (hn : ¬ po4 < t ∨ ¬ (¬ T po4 < 97 ∧ ¬ 122 < T po4)) : mAl t T po4 ft3 = mFar t T D := by
  rw [Al_sk hp hs, h3]
  subst h3
  by_cases h : ft3 < 0
  · rw [mAl_t h]
    unfold mFar
    rw [if_neg]
    show ¬ mLt t T (mSk t T po3) = true
    rw [← hs, no_lt hn]; decide
  · rw [mAl_f h]; exact (mFar_f rfl).symm
theorem zf_n (h3 : mAl t T po3 ft3 = D) (hs : po4 = mSk t T po3) (hn : ¬ po4 < t ∨ ¬ (¬ T po4 < 97 ∧ ¬ 122 < T po4)) : ft3 < 0 → 0 = mZf t T D := fun h => by
  subst h3
  rw [mAl_t h]
  unfold mZf
  rw [if_neg]
  show ¬ mLt t T (mSk t T po3) = true
  rw [← hs, no_lt hn]; decide
theorem Al_far_y (h : mAl t T po5 ft5 = mNum t T 0 9 (mAl t T po4 ft4)) (h4 : mAl t T po4 ft4 = mWrd t T 7 D) (hc : D.2 = true → mLt t T D.1 = true) : mAl t T po5 ft5 = mFar t T D := by
  rw [h, h4]
  by_cases q : D.2 = true
  · unfold mFar; rw [if_pos (hc q)]
  · have q2 := Bool.eq_false_iff.mpr q
    rw [mFar_f q2, mWrd_no q2, mNum_no rfl, ← q2]
theorem zf_y (hq : (¬ ft5 < 0 ∧ r5 = 0) ∨ (ft5 < 0 ∧ ft4 < 0 ∧ ¬ r5 < 0 ∧ ¬ 9 < r5)) (hv : ft5 < 0 → r5 = mV t T (mAl t T po4 ft4).1) (h4 : mAl t T po4 ft4 = mWrd t T 7 D) (hc : D.2 = true → mLt t T D.1 = true) : ft5 < 0 → r5 = mZf t T D := fun q => by
  have q4 : ft4 < 0 := hq.elim (fun h => absurd q h.1) (fun h => h.2.1)
  have e := hv q
  rw [h4] at e
  have q2 : D.2 = true := by
    by_cases q2 : D.2 = true
    · exact q2
    · rw [mAl_t q4, mWrd_no (Bool.eq_false_iff.mpr q2)] at h4
      have := congrArg Prod.snd h4
      exact absurd this.symm Bool.false_ne_true
  unfold mZf
  rw [if_pos (hc q2)]; exact e
theorem hb_s {lo hi : Int32} {P : Prop} (hq : (¬ ft3 < 0 ∧ r3 = 0) ∨ (ft3 < 0 ∧ ft2 < 0 ∧ ¬ r3 < lo ∧ ¬ hi < r3)) (hJ : ft2 < 0 → P) (h2 : mAl t T po2 ft2 = D2) (hv : ft3 < 0 → r3 = mV t T (mAl t T po2 ft2).1) : ft3 < 0 → P ∧ r3 = mV t T D2.1 := fun q => by
  have q2 : ft2 < 0 := hq.elim (fun h => absurd q h.1) (fun h => h.2.1)
  refine ⟨hJ q2, ?_⟩
  rw [← h2]; exact hv q
theorem hb_f {P : Prop} (hk : mk ≤ 240) (hf : (¬ ft < 0 ∧ ft2 = ft) ∨ (ft < 0 ∧ ft2 = nI mk)) : ft2 < 0 → P := fun q => absurd q (ft_no hk hf)
theorem hb_p {lo hi : Int32} {P : Prop} (hq : (¬ ft3 < 0 ∧ r3 = 0) ∨ (ft3 < 0 ∧ ft2 < 0 ∧ ¬ r3 < lo ∧ ¬ hi < r3)) (hJ : ft2 < 0 → P) : ft3 < 0 → P := fun q => hJ (hq.elim (fun h => absurd q h.1) (fun h => h.2.1))
theorem and3 {P Q R : Prop} (h1 : ft < 0 → P ∧ Q) (h2 : ft < 0 → R) : ft < 0 → P ∧ Q ∧ R := fun q => ⟨(h1 q).1, (h1 q).2, h2 q⟩
end CH2
/-- the name, or nothing, that stands at the class's place is told to what follows -/
theorem mItS_no {t n b : Nat} {T : Nat → Int32} (h8 : ¬ mWd t T b = 8) (h9 : ¬ mWd t T b = 9) (h10 : ¬ mWd t T b = 10) (h11 : ¬ mWd t T b = 11) (h12 : ¬ mWd t T b = 12) : mItB t T n b = if (¬ mWd t T b < 0 ∧ mWd t T b < 6) ∧ n < 8 then mFar t T (mNum t T 0 5 (mWrd t T 6 (mNum t T 0 9 (mNx t T b, true)))) else (b, false) := by
  unfold mItB; rw [if_neg h8, if_neg h9, if_neg h10, if_neg h11, if_neg h12]
section RI
variable {t n po po1 po2 mk k : Nat} {T kd ka ho fa si kn aw ev lw ev2 si2 : Nat → Int32} {r r2 ft ft2 td lo hi : Int32} {F2 : MF}
variable (hm : mk = mSk t T po) (hp : po1 = mLe t T mk) (hr : r = mWd t T (mSk t T po)) (hft : ft < 0)
theorem IB8 (hm : mk = mSk t T po) (hp : po1 = mLe t T mk) (hr : r = mWd t T (mSk t T po)) (hft : ft < 0) (hw : r = 8) (h : mAl t T po2 ft2 = mNum t T 0 31 (mNum t T 0 39 (mAl t T po1 ft))) : mAl t T po2 ft2 = mItB t T n (mSk t T po) := by
  rw [h, Al_word hm hp hr (w := 8) (by decide) hw hft]
  unfold mItB; rw [if_pos (hr.symm.trans hw)]
theorem IB9 (hm : mk = mSk t T po) (hp : po1 = mLe t T mk) (hr : r = mWd t T (mSk t T po)) (hft : ft < 0) (hw : r = 9) (h : mAl t T po2 ft2 = mNum t T 0 20 (mNum t T 0 (nI n - 1) (mAl t T po1 ft))) : mAl t T po2 ft2 = mItB t T n (mSk t T po) := by
  have e : mWd t T (mSk t T po) = 9 := hr.symm.trans hw
  rw [h, Al_word hm hp hr (w := 9) (by decide) hw hft]
  unfold mItB; rw [if_neg (by rw [e]; decide), if_pos e]
theorem IB10 (hm : mk = mSk t T po) (hp : po1 = mLe t T mk) (hr : r = mWd t T (mSk t T po)) (hft : ft < 0) (hw : r = 10) (h : mAl t T po2 ft2 = mNum t T 0 40 (mAl t T po1 ft)) : mAl t T po2 ft2 = mItB t T n (mSk t T po) := by
  have e : mWd t T (mSk t T po) = 10 := hr.symm.trans hw
  rw [h, Al_word hm hp hr (w := 10) (by decide) hw hft]
  unfold mItB; rw [if_neg (by rw [e]; decide), if_neg (by rw [e]; decide), if_pos e]
theorem IB11 (hm : mk = mSk t T po) (hp : po1 = mLe t T mk) (hr : r = mWd t T (mSk t T po)) (hft : ft < 0) (hw : r = 11) (hl : lo = 1 ∧ hi = 20) (h : mAl t T po2 ft2 = mNum t T lo hi (mAl t T po1 ft)) : mAl t T po2 ft2 = mItB t T n (mSk t T po) := by
  have e : mWd t T (mSk t T po) = 11 := hr.symm.trans hw
  rw [h, Al_word hm hp hr (w := 11) (by decide) hw hft, hl.1, hl.2]
  unfold mItB; rw [if_neg (by rw [e]; decide), if_neg (by rw [e]; decide), if_neg (by rw [e]; decide), if_pos e]
theorem IB12 (hm : mk = mSk t T po) (hp : po1 = mLe t T mk) (hr : r = mWd t T (mSk t T po)) (hft : ft < 0) (hw : r = 12) (hl : lo = 2 ∧ hi = 30) (h : mAl t T po2 ft2 = mNum t T lo hi (mAl t T po1 ft)) : mAl t T po2 ft2 = mItB t T n (mSk t T po) := by
  have e : mWd t T (mSk t T po) = 12 := hr.symm.trans hw
  rw [h, Al_word hm hp hr (w := 12) (by decide) hw hft, hl.1, hl.2]
  unfold mItB; rw [if_neg (by rw [e]; decide), if_neg (by rw [e]; decide), if_neg (by rw [e]; decide), if_neg (by rw [e]; decide), if_pos e]
theorem nI_lt6 {x : Int32} (h : ¬ x < 0 ∧ x < 6) : ∃ w : Nat, w < 6 ∧ x = nI w := by
  obtain ⟨w, h1, h2⟩ := nI_of h.1
  subst h2
  exact ⟨w, (nI_ltI (a := w) (b := 6) h1 (by decide)).mp h.2, rfl⟩
theorem IBC (hm : mk = mSk t T po) (hp : po1 = mLe t T mk) (hr : r = mWd t T (mSk t T po)) (hft : ft < 0) (hk : mk ≤ 240) (h8 : ¬ r = 8) (h9 : ¬ r = 9) (h10 : ¬ r = 10) (h11 : ¬ r = 11) (h12 : ¬ r = 12)
    (hy : (¬ r < 0 ∧ r < 6) ∧ n < 8 → mAl t T po2 ft2 = mFar t T (mNum t T 0 5 (mWrd t T 6 (mNum t T 0 9 (mAl t T po1 ft))))) (hn : ¬ ((¬ r < 0 ∧ r < 6) ∧ n < 8) → (¬ ft < 0 ∧ ft2 = ft) ∨ (ft < 0 ∧ ft2 = nI mk)) : mAl t T po2 ft2 = mItB t T n (mSk t T po) := by
  rw [mItS_no (by rw [← hr]; exact h8) (by rw [← hr]; exact h9) (by rw [← hr]; exact h10) (by rw [← hr]; exact h11) (by rw [← hr]; exact h12), ← hr]
  by_cases e : (¬ r < 0 ∧ r < 6) ∧ n < 8
  · rw [if_pos e, hy e]
    obtain ⟨w, hw6, hw⟩ := nI_lt6 e.1
    rw [Al_word hm hp hr (w := w) (by omega) hw hft]
  · rw [if_neg e]
    rcases hn e with h | h
    · exact absurd hft h.1
    · rw [h.2, mAl_f (nI_pos (by omega)), nI_clamp (by omega), hm]
theorem OB8 (hm : mk = mSk t T po) (hp : po1 = mLe t T mk) (hr : r = mWd t T (mSk t T po)) (hft : ft < 0) (hw : r = 8) (hv : ft2 < 0 → ev2 = upd ev (mV t T (mAl t T po1 ft).1).toNatClampNeg (mV t T (mNum t T 0 39 (mAl t T po1 ft)).1)) : ft2 < 0 → (n, kd, ka, ho, fa, si, kn, aw, ev2, lw, td) = opC (mWd t T (mSk t T po)) (mItX t T (mSk t T po)) (mItY t T n (mSk t T po)) (mItZ t T (mSk t T po)) (n, kd, ka, ho, fa, si, kn, aw, ev, lw, td) := fun q => by
  have e : mWd t T (mSk t T po) = 8 := hr.symm.trans hw
  have hv2 := hv q
  rw [Al_word hm hp hr (w := 8) (by decide) hw hft] at hv2
  unfold opC; rw [if_pos e, hv2]
  unfold mItX mItY; rw [if_pos e]; rfl
theorem OB9 (hm : mk = mSk t T po) (hp : po1 = mLe t T mk) (hr : r = mWd t T (mSk t T po)) (hft : ft < 0) (hw : r = 9) (hv : ft2 < 0 → si2 = upd si (mV t T (mAl t T po1 ft).1).toNatClampNeg (mV t T (mNum t T 0 (nI n - 1) (mAl t T po1 ft)).1)) : ft2 < 0 → (n, kd, ka, ho, fa, si2, kn, aw, ev, lw, td) = opC (mWd t T (mSk t T po)) (mItX t T (mSk t T po)) (mItY t T n (mSk t T po)) (mItZ t T (mSk t T po)) (n, kd, ka, ho, fa, si, kn, aw, ev, lw, td) := fun q => by
  have e : mWd t T (mSk t T po) = 9 := hr.symm.trans hw
  have hv2 := hv q
  rw [Al_word hm hp hr (w := 9) (by decide) hw hft] at hv2
  unfold opC; rw [if_neg (by rw [e]; decide), if_pos e, hv2]
  unfold mItX mItY; rw [if_neg (by rw [e]; decide), if_pos e]; rfl
theorem OB10 (hm : mk = mSk t T po) (hp : po1 = mLe t T mk) (hr : r = mWd t T (mSk t T po)) (hft : ft < 0) (hw : r = 10) (hv : ft2 < 0 → r2 = mV t T (mAl t T po1 ft).1) (he : r2 = nI k) : ft2 < 0 → (n, kd, ka, ho, fa, si, kn, aw, ev, lw, nI k) = opC (mWd t T (mSk t T po)) (mItX t T (mSk t T po)) (mItY t T n (mSk t T po)) (mItZ t T (mSk t T po)) (n, kd, ka, ho, fa, si, kn, aw, ev, lw, td) := fun q => by
  have e : mWd t T (mSk t T po) = 10 := hr.symm.trans hw
  have hv2 := hv q
  rw [Al_word hm hp hr (w := 10) (by decide) hw hft, he] at hv2
  unfold opC; rw [if_neg (by rw [e]; decide), if_neg (by rw [e]; decide), if_pos e, hv2]; rfl
theorem OB11 (hm : mk = mSk t T po) (hp : po1 = mLe t T mk) (hr : r = mWd t T (mSk t T po)) (hft : ft < 0) (hw : r = 11) (hv : ft2 < 0 → r2 = mV t T (mAl t T po1 ft).1) : ft2 < 0 → (n, kd, ka, ho, fa, si, kn, aw, ev, upd lw 0 r2, td) = opC (mWd t T (mSk t T po)) (mItX t T (mSk t T po)) (mItY t T n (mSk t T po)) (mItZ t T (mSk t T po)) (n, kd, ka, ho, fa, si, kn, aw, ev, lw, td) := fun q => by
  have e : mWd t T (mSk t T po) = 11 := hr.symm.trans hw
  have hv2 := hv q
  rw [Al_word hm hp hr (w := 11) (by decide) hw hft] at hv2
  unfold opC; rw [if_neg (by rw [e]; decide), if_neg (by rw [e]; decide), if_neg (by rw [e]; decide), if_pos e, hv2]; rfl
theorem OB12 (hm : mk = mSk t T po) (hp : po1 = mLe t T mk) (hr : r = mWd t T (mSk t T po)) (hft : ft < 0) (hw : r = 12) (hv : ft2 < 0 → r2 = mV t T (mAl t T po1 ft).1) : ft2 < 0 → (n, kd, ka, ho, fa, si, kn, aw, ev, upd lw 1 r2, td) = opC (mWd t T (mSk t T po)) (mItX t T (mSk t T po)) (mItY t T n (mSk t T po)) (mItZ t T (mSk t T po)) (n, kd, ka, ho, fa, si, kn, aw, ev, lw, td) := fun q => by
  have e : mWd t T (mSk t T po) = 12 := hr.symm.trans hw
  have hv2 := hv q
  rw [Al_word hm hp hr (w := 12) (by decide) hw hft] at hv2
  unfold opC; rw [if_neg (by rw [e]; decide), if_neg (by rw [e]; decide), if_neg (by rw [e]; decide), if_neg (by rw [e]; decide), if_pos e, hv2]; rfl
theorem OBC {F1 : MF} (hm : mk = mSk t T po) (hp : po1 = mLe t T mk) (hr : r = mWd t T (mSk t T po)) (hft : ft < 0) (hk : mk ≤ 240) (h8 : ¬ r = 8) (h9 : ¬ r = 9) (h10 : ¬ r = 10) (h11 : ¬ r = 11) (h12 : ¬ r = 12)
    (hy : (¬ r < 0 ∧ r < 6) ∧ n < 8 → ft2 < 0 → F2 = mfA F1 r (mV t T (mAl t T po1 ft).1) (mV t T (mWrd t T 6 (mNum t T 0 9 (mAl t T po1 ft))).1) (mZf t T (mNum t T 0 5 (mWrd t T 6 (mNum t T 0 9 (mAl t T po1 ft)))))) (hn : ¬ ((¬ r < 0 ∧ r < 6) ∧ n < 8) → (¬ ft < 0 ∧ ft2 = ft) ∨ (ft < 0 ∧ ft2 = nI mk)) : ft2 < 0 → F2 = opC (mWd t T (mSk t T po)) (mItX t T (mSk t T po)) (mItY t T n (mSk t T po)) (mItZ t T (mSk t T po)) F1 := fun q => by
  by_cases e : (¬ r < 0 ∧ r < 6) ∧ n < 8
  · obtain ⟨w, hw6, hw⟩ := nI_lt6 e.1
    rw [hy e q, Al_word hm hp hr (w := w) (by omega) hw hft]
    unfold opC mItX mItY mItZ
    rw [← hr, if_neg h8, if_neg h9, if_neg h10, if_neg h11, if_neg h12, if_neg h8, if_neg h9]
  · exact absurd q (ft_no hk (hn e))
end RI
theorem sk_self {t po po1 : Nat} {T : Nat → Int32} (hp : po ≤ t) (h : po1 = mSk t T po) : po1 = mSk t T po1 := by
  rw [h, mSk_sk hp]
def mTellC (t : Nat) (T : Nat → Int32) (F0 : MF) : MF × MP := mLoop Prod.fst opC t T 240 F0 (mSk t T 0, true)
def LpC (t : Nat) (T : Nat → Int32) (F0 : MF) (k : Nat) (F2 : MF) (po : Nat) (ft : Int32) : Prop := ∃ F : MF, mTellC t T F0 = mLoop Prod.fst opC t T (240 - k) F (mAl t T po ft) ∧ (ft < 0 → F = F2)
def LpX (t : Nat) (T : Nat → Int32) (F0 F2 : MF) (po : Nat) (ft : Int32) : Prop := ∃ F : MF, mTellC t T F0 = (F, mAl t T po ft) ∧ (ft < 0 → F = F2)
section LC
variable {t k po po1 po2 : Nat} {T : Nat → Int32} {F0 F2 F3 : MF} {ft ft1 : Int32}
theorem LpC_0 (h : po = mSk t T 0) : LpC t T F0 0 F0 po (-1) :=
  ⟨F0, by rw [mAl_t (by decide), h, mSk_sk (Nat.zero_le t)]; rfl, fun _ => rfl⟩
theorem LpC_s (h : LpC t T F0 k F2 po ft) (hk : k < 240) (hft : ft < 0) (hpo : po < t) (hself : po = mSk t T po) (hi : mAl t T po1 ft1 = mItS t T F2.1 (mSk t T po)) (ho : ft1 < 0 → F3 = opC (mWd t T (mSk t T po)) (mItX t T (mSk t T po)) (mItY t T F2.1 (mSk t T po)) (mItZ t T (mSk t T po)) F2) (hs : po2 = mSk t T po1) (hle : po1 ≤ t) : LpC t T F0 (k + 1) F3 po2 ft1 := by
  obtain ⟨F, h1, h2⟩ := h
  have h3 := h2 hft
  subst h3
  rw [show 240 - k = (240 - (k + 1)) + 1 from by omega, mAl_t hft, mLoop_s ⟨rfl, by show mSk t T po < t; omega⟩] at h1
  refine ⟨_, ?_, fun q => (ho q).symm⟩
  rw [h1, Al_sk hle hs, hi]
theorem LpC_x (h : LpC t T F0 k F2 po ft) (hx : 240 ≤ k ∨ t ≤ po ∨ 0 ≤ ft) (hself : po = mSk t T po) : LpX t T F0 F2 po ft := by
  obtain ⟨F, h1, h2⟩ := h
  refine ⟨F, ?_, h2⟩
  rw [h1]
  rcases hx with e | e | e
  · rw [show 240 - k = 0 from by omega]; rfl
  · refine mLoop_x (fun q => ?_) _
    by_cases hft : ft < 0
    · rw [mAl_t hft] at q
      have q2 : mSk t T po < t := q.2
      omega
    · rw [mAl_f hft] at q; exact absurd q.1 Bool.false_ne_true
  · refine mLoop_x (fun q => ?_) _
    rw [mAl_f (Int32.not_lt.mpr e)] at q; exact absurd q.1 Bool.false_ne_true
theorem LX_y (h : LpX t T F0 F2 po ft) (hft : ft < 0) : (mTellC t T F0).2.2 = true ∧ (mTellC t T F0).1 = F2 := by
  obtain ⟨F, h1, h2⟩ := h
  rw [h1, mAl_t hft]; exact ⟨rfl, h2 hft⟩
theorem LX_n (h : LpX t T F0 F2 po ft) (hft : ¬ ft < 0) : (mTellC t T F0).2.2 = false ∧ ft = nI (mTellC t T F0).2.1 := by
  obtain ⟨F, h1, h2⟩ := h
  rw [h1, mAl_f hft]
  refine ⟨rfl, ?_⟩
  obtain ⟨j, hj, e⟩ := nI_of hft
  show ft = nI ft.toNatClampNeg
  rw [e, nI_clamp hj]
end LC
/-! bytes that come -/
def bC (e : Int64) (k : Nat) : Int32 := vp_nar .byte (((e >>> ((nI (8 * k)).toInt64 &&& 63)).toInt32).toInt8.toInt32)
def bR (e : Int64) (k : Nat) : Int32 := ((e >>> ((nI (8 * k)).toInt64 &&& 63)) &&& 255).toInt32
def mFeedB (g T : Nat → Int32) (t : Nat) (n : Int32) : Nat → Int32 := if n < 1 ∨ 8 < n ∨ 240 < t + n.toNatClampNeg then T else mFd g T t n.toNatClampNeg
/-! both readers agree -/
theorem mLoop_sim {σ τ : Type} {cnt : σ → Nat} {op : Int32 → Int32 → Int32 → Int32 → σ → σ} {cnt2 : τ → Nat} {op2 : Int32 → Int32 → Int32 → Int32 → τ → τ} {t : Nat} {T : Nat → Int32} (R : σ → τ → Prop) (hc : ∀ F G, R F G → cnt F = cnt2 G) (ho : ∀ F G w x y z, R F G → R (op w x y z F) (op2 w x y z G)) : ∀ (k : Nat) (F : σ) (G : τ) (s : MP), R F G → (mLoop cnt op t T k F s).2 = (mLoop cnt2 op2 t T k G s).2 ∧ R (mLoop cnt op t T k F s).1 (mLoop cnt2 op2 t T k G s).1
  | 0, F, G, s, h => ⟨rfl, h⟩
  | k + 1, F, G, s, h => by
    by_cases e : s.2 = true ∧ s.1 < t
    · rw [mLoop_s e, mLoop_s e, hc F G h]
      exact mLoop_sim R hc ho k _ _ _ (ho F G _ _ _ _ h)
    · rw [mLoop_x e, mLoop_x e]; exact ⟨rfl, h⟩
/-- bytes as the class has them (signed) and as the reference has them -/
def Rb (x y : Int32) : Prop := x = y ∧ ¬ x < 0 ∨ x < 0 ∧ 127 < y
def TpR (T T2 : Nat → Int32) : Prop := ∀ i, Rb (T i) (T2 i)
theorem Rb.pos {x y : Int32} (h : Rb x y) : ¬ y < 0 := by
  rcases h with ⟨h1, h2⟩ | ⟨_, h2⟩
  · rw [← h1]; exact h2
  · intro q
    simp only [Int32.lt_iff_toInt_lt, show (0 : Int32).toInt = 0 from by decide, show (127 : Int32).toInt = 127 from by decide] at h2 q
    omega
theorem TpR.ok {T T2 : Nat → Int32} (h : TpR T T2) : TapOk T2 := fun k => (h k).pos
theorem Rb.eq {x y c : Int32} (h : Rb x y) (h0 : ¬ c < 0) (h1 : ¬ 127 < c) : (x = c) = (y = c) := by
  apply propext
  rcases h with ⟨e, _⟩ | ⟨a, b⟩
  · rw [e]
  · exact ⟨fun q => absurd (q ▸ a) h0, fun q => absurd (q ▸ b) h1⟩
theorem Rb.rg {x y lo hi : Int32} (h : Rb x y) (h0 : ¬ lo < 0) (h1 : ¬ 127 < hi) : (¬ x < lo ∧ ¬ hi < x) = (¬ y < lo ∧ ¬ hi < y) := by
  apply propext
  rcases h with ⟨e, _⟩ | ⟨a, b⟩
  · rw [e]
  · simp only [Int32.lt_iff_toInt_lt, show (0 : Int32).toInt = 0 from by decide, show (127 : Int32).toInt = 127 from by decide] at *
    omega
theorem Rb.same {x y lo hi : Int32} (h : Rb x y) (h0 : ¬ lo < 0) (hx : ¬ x < lo ∧ ¬ hi < x) : x = y := by
  rcases h with ⟨e, _⟩ | ⟨a, b⟩
  · exact e
  · simp only [Int32.lt_iff_toInt_lt, show (0 : Int32).toInt = 0 from by decide, show (127 : Int32).toInt = 127 from by decide] at *
    omega
section TP
variable {t : Nat} {T T2 : Nat → Int32}
theorem tp_byte (h : TpR T T2) {c : Int32} (h0 : ¬ c < 0) (h1 : ¬ 127 < c) (k : Nat) : (mByte t T k = c) = (mByte t T2 k = c) := by
  unfold mByte
  by_cases e : k < t
  · rw [if_pos e, if_pos e]; exact (h k).eq h0 h1
  · rw [if_neg e, if_neg e]
theorem tp_rg (h : TpR T T2) {lo hi : Int32} (h0 : ¬ lo < 0) (h1 : ¬ 127 < hi) (k : Nat) : (¬ mByte t T k < lo ∧ ¬ hi < mByte t T k) = (¬ mByte t T2 k < lo ∧ ¬ hi < mByte t T2 k) := by
  unfold mByte
  by_cases e : k < t
  · rw [if_pos e, if_pos e]; exact (h k).rg h0 h1
  · rw [if_neg e, if_neg e]
theorem tp_bl (h : TpR T T2) : mBl t T = mBl t T2 := by
  funext k; unfold mBl; exact decide_eq_decide.mpr (iff_of_eq (tp_byte h (by decide) (by decide) k))
theorem tp_lt (h : TpR T T2) : mLt t T = mLt t T2 := by
  funext k; unfold mLt; exact decide_eq_decide.mpr (iff_of_eq (tp_rg h (by decide) (by decide) k))
theorem tp_dg (h : TpR T T2) : mDg t T = mDg t T2 := by
  funext k; unfold mDg; exact decide_eq_decide.mpr (iff_of_eq (tp_rg h (by decide) (by decide) k))
theorem tp_sk (h : TpR T T2) : mSk t T = mSk t T2 := by funext p; unfold mSk; rw [tp_bl h]
theorem tp_le (h : TpR T T2) : mLe t T = mLe t T2 := by funext p; unfold mLe; rw [tp_lt h]
theorem tp_de (h : TpR T T2) : mDe t T = mDe t T2 := by funext p; unfold mDe; rw [tp_dg h]
theorem tp_te (h : TpR T T2) : mTe t T = mTe t T2 := by funext p; unfold mTe; rw [tp_lt h, tp_dg h, tp_le h, tp_de h]
theorem tp_nx (h : TpR T T2) : mNx t T = mNx t T2 := by funext p; unfold mNx; rw [tp_te h, tp_sk h]
theorem tp_dgs (h : TpR T T2) {i : Nat} (hd : mDg t T i = true) : T i = T2 i := by
  have h1 := mDg_in hd
  unfold mDg at hd
  have h2 := of_decide_eq_true hd
  rw [mByte_lt h1] at h2
  exact (h i).same (by decide) h2
theorem tp_lts (h : TpR T T2) {i : Nat} (hd : mLt t T i = true) : T i = T2 i := by
  have h1 := mLt_in hd
  unfold mLt at hd
  have h2 := of_decide_eq_true hd
  rw [mByte_lt h1] at h2
  exact (h i).same (by decide) h2
theorem tp_val (h : TpR T T2) {b : Nat} : ∀ k, b + k ≤ mDe t T b → mVal T b k = mVal T2 b k
  | 0, _ => rfl
  | k + 1, hk => by
    show mVal T b k * 10 + (T (b + k) - 48) = mVal T2 b k * 10 + (T2 (b + k) - 48)
    rw [tp_val h k (by omega), tp_dgs h (mEn_all (f := mDg t T) (t := t) (p := b) (i := b + k) (by omega) (show b + k < mDe t T b by omega))]
theorem tp_v (h : TpR T T2) : mV t T = mV t T2 := by
  funext b
  unfold mV
  have h1 := mDe_ge t T b
  rw [← tp_de h]
  exact tp_val (t := t) h _ (by omega)
theorem all_congr {ok ok2 : Nat → Bool} : ∀ n, (∀ i, i < n → ok i = ok2 i) → mAll ok n = mAll ok2 n
  | 0, _ => rfl
  | n + 1, h => by
    unfold mAll
    rw [all_congr n (fun i hi => h i (by omega)), h n (by omega)]
theorem tp_isw (h : TpR T T2) (b w : Nat) : mIsW T b (mLe t T b) w = mIsW T2 b (mLe t T b) w := by
  unfold mIsW
  by_cases e : mLe t T b = b + lenS.getD w 0
  · rw [all_congr (ok := fun i => decide (T (b + i) = chS w i)) (ok2 := fun i => decide (T2 (b + i) = chS w i)) (lenS.getD w 0) (fun i hi => by
      show decide (T (b + i) = chS w i) = decide (T2 (b + i) = chS w i)
      rw [tp_lts h (mEn_all (f := mLt t T) (t := t) (p := b) (i := b + i) (by omega) (show b + i < mLe t T b by omega))])]
  · rw [decide_eq_false e, Bool.false_and, Bool.false_and]
theorem tp_wd (h : TpR T T2) : mWd t T = mWd t T2 := by
  funext b
  unfold mWd
  rw [← tp_le h, show mIsW T b (mLe t T b) = mIsW T2 b (mLe t T b) from funext (fun w => tp_isw h b w)]
theorem tp_nok (h : TpR T T2) : mNok t T = mNok t T2 := by funext lo hi b; unfold mNok; rw [tp_dg h, tp_de h, tp_v h]
theorem tp_num (h : TpR T T2) : mNum t T = mNum t T2 := by funext lo hi s; unfold mNum; rw [tp_nok h, tp_nx h]
theorem tp_wrd (h : TpR T T2) : mWrd t T = mWrd t T2 := by funext w s; unfold mWrd; rw [tp_wd h, tp_nx h]
theorem tp_sem (h : TpR T T2) : mSem t T = mSem t T2 := by
  funext s
  have e := tp_byte (t := t) h (c := 59) (by decide) (by decide) s.1
  unfold mSem; rw [tp_nx h]
  by_cases q : s.2 = true ∧ mByte t T s.1 = 59
  · rw [if_pos q, if_pos ⟨q.1, e.mp q.2⟩]
  · rw [if_neg q, if_neg (fun w => q ⟨w.1, e.mpr w.2⟩)]
theorem tp_far (h : TpR T T2) : mFar t T = mFar t T2 := by funext s; unfold mFar; rw [tp_lt h, tp_num h, tp_wrd h]
theorem tp_its (h : TpR T T2) : mItS t T = mItS t T2 := by funext n b; unfold mItS; rw [tp_wd h, tp_sem h, tp_num h, tp_nx h, tp_far h, tp_wrd h]
theorem tp_itx (h : TpR T T2) : mItX t T = mItX t T2 := by funext b; unfold mItX; rw [tp_v h, tp_nx h]
theorem tp_ity (h : TpR T T2) : mItY t T = mItY t T2 := by funext n b; unfold mItY; rw [tp_wd h, tp_v h, tp_num h, tp_nx h, tp_wrd h]
theorem tp_zf (h : TpR T T2) : mZf t T = mZf t T2 := by funext s; unfold mZf; rw [tp_lt h, tp_v h, tp_wrd h]
theorem tp_itz (h : TpR T T2) : mItZ t T = mItZ t T2 := by funext b; unfold mItZ; rw [tp_zf h, tp_num h, tp_wrd h, tp_nx h]
theorem tp_loop {σ : Type} {cnt : σ → Nat} {op : Int32 → Int32 → Int32 → Int32 → σ → σ} (h : TpR T T2) : ∀ (k : Nat) (F : σ) (s : MP), mLoop cnt op t T k F s = mLoop cnt op t T2 k F s
  | 0, _, _ => rfl
  | k + 1, F, s => by
    by_cases e : s.2 = true ∧ s.1 < t
    · rw [mLoop_s e, mLoop_s e, tp_wd h, tp_itx h, tp_ity h, tp_itz h, tp_its h]; exact tp_loop h k _ _
    · rw [mLoop_x e, mLoop_x e]
end TP
/-- how many children, TODAY -/
def opN (w x _ _ : Int32) (F : Nat × Int32) : Nat × Int32 := if w = 8 then F else if w = 9 then F else if w = 10 then (F.1, x) else if w = 11 then F else if w = 12 then F else (F.1 + 1, F.2)
def mTellN (t : Nat) (T : Nat → Int32) : (Nat × Int32) × MP := mLoop Prod.fst opN t T 240 (0, 0) (mSk t T 0, true)
def ansSc (t : Nat) (T : Nat → Int32) : Int32 := if (mTellN t T).2.2 = true then nI (mTellN t T).1.1 else -100 - nI (mTellN t T).2.1
def tdF (F : MF) : Int32 := F.2.2.2.2.2.2.2.2.2.2
def tdR (F : RF) : Int32 := F.2.2.2.2.2
theorem simC (w x y z : Int32) (F : MF) (G : Nat × Int32) (h : F.1 = G.1 ∧ tdF F = G.2) : (opC w x y z F).1 = (opN w x y z G).1 ∧ tdF (opC w x y z F) = (opN w x y z G).2 := by
  obtain ⟨h1, h2⟩ := h
  unfold opC opN
  by_cases e8 : w = 8
  · rw [if_pos e8, if_pos e8]; exact ⟨h1, h2⟩
  · rw [if_neg e8, if_neg e8]
    by_cases e9 : w = 9
    · rw [if_pos e9, if_pos e9]; exact ⟨h1, h2⟩
    · rw [if_neg e9, if_neg e9]
      by_cases e10 : w = 10
      · rw [if_pos e10, if_pos e10]; exact ⟨h1, rfl⟩
      · rw [if_neg e10, if_neg e10]
        by_cases e11 : w = 11
        · rw [if_pos e11, if_pos e11]; exact ⟨h1, h2⟩
        · rw [if_neg e11, if_neg e11]
          by_cases e12 : w = 12
          · rw [if_pos e12, if_pos e12]; exact ⟨h1, h2⟩
          · rw [if_neg e12, if_neg e12]; exact ⟨congrArg (· + 1) h1, h2⟩
theorem simR (w x y z : Int32) (F : RF) (G : Nat × Int32) (h : F.1 = G.1 ∧ tdR F = G.2) : (opR w x y z F).1 = (opN w x y z G).1 ∧ tdR (opR w x y z F) = (opN w x y z G).2 := by
  obtain ⟨h1, h2⟩ := h
  unfold opR opN
  by_cases e8 : w = 8
  · rw [if_pos e8, if_pos e8]; exact ⟨h1, h2⟩
  · rw [if_neg e8, if_neg e8]
    by_cases e9 : w = 9
    · rw [if_pos e9, if_pos e9]; exact ⟨h1, h2⟩
    · rw [if_neg e9, if_neg e9]
      by_cases e10 : w = 10
      · rw [if_pos e10, if_pos e10]; exact ⟨h1, rfl⟩
      · rw [if_neg e10, if_neg e10]
        by_cases e11 : w = 11
        · rw [if_pos e11, if_pos e11]; exact ⟨h1, h2⟩
        · rw [if_neg e11, if_neg e11]
          by_cases e12 : w = 12
          · rw [if_pos e12, if_pos e12]; exact ⟨h1, h2⟩
          · rw [if_neg e12, if_neg e12]; exact ⟨congrArg (· + 1) h1, h2⟩
theorem tellC {t : Nat} {T : Nat → Int32} {F0 : MF} (h0 : F0.1 = 0 ∧ tdF F0 = 0) : (mTellC t T F0).2 = (mTellN t T).2 ∧ (mTellC t T F0).1.1 = (mTellN t T).1.1 ∧ tdF (mTellC t T F0).1 = (mTellN t T).1.2 :=
  mLoop_sim (cnt := Prod.fst) (op := opC) (cnt2 := Prod.fst) (op2 := opN) (fun (F : MF) (G : Nat × Int32) => F.1 = G.1 ∧ tdF F = G.2) (fun _ _ h => h.1) (fun F G w x y z h => simC w x y z F G h) 240 F0 (0, 0) (mSk t T 0, true) h0
theorem tellR {t : Nat} {T ch si lw : Nat → Int32} : (mTellR t T ch si lw).2 = (mTellN t T).2 ∧ (mTellR t T ch si lw).1.1 = (mTellN t T).1.1 ∧ tdR (mTellR t T ch si lw).1 = (mTellN t T).1.2 :=
  mLoop_sim (cnt := Prod.fst) (op := opR) (cnt2 := Prod.fst) (op2 := opN) (fun (F : RF) (G : Nat × Int32) => F.1 = G.1 ∧ tdR F = G.2) (fun _ _ h => h.1) (fun F G w x y z h => simR w x y z F G h) 240 (0, ch, si, (fun _ => 0), lw, 0) (0, 0) (mSk t T 0, true) ⟨rfl, rfl⟩
theorem tellN_tp {t : Nat} {T T2 : Nat → Int32} (h : TpR T T2) : mTellN t T = mTellN t T2 := by
  unfold mTellN; rw [tp_sk h]; exact tp_loop h _ _ _
theorem ansC {t : Nat} {T : Nat → Int32} {F0 : MF} (h0 : F0.1 = 0 ∧ tdF F0 = 0) : (if (mTellC t T F0).2.2 = true then nI (mTellC t T F0).1.1 else -100 - nI (mTellC t T F0).2.1) = ansSc t T := by
  obtain ⟨h1, h2, _⟩ := tellC (t := t) (T := T) h0
  unfold ansSc; rw [h1, h2]
theorem ansR {t : Nat} {T T2 ch si lw : Nat → Int32} (h : TpR T T2) : (if (mTellR t T2 ch si lw).2.2 = true then nI (mTellR t T2 ch si lw).1.1 else -100 - nI (mTellR t T2 ch si lw).2.1) = ansSc t T := by
  obtain ⟨h1, h2, _⟩ := tellR (t := t) (T := T2) (ch := ch) (si := si) (lw := lw)
  unfold ansSc; rw [tellN_tp h, h1, h2]
theorem byte_rel (v : Int64) : Rb (vp_nar .byte (v.toInt32.toInt8.toInt32)) ((v &&& 255).toInt32) := by
  have h2 : ((v &&& 255).toInt32).toInt = v.toInt % 256 := by
    have e : (v &&& 255).toInt = v.toInt % 256 := by
      rw [← Int64.toInt_toBitVec, Int64.toBitVec_and]
      have e1 : (255 : Int64).toBitVec = BitVec.ofNat 64 (2 ^ 8 - 1) := by decide
      rw [e1, BitVec.toInt_eq_toNat_of_msb (by
        rw [BitVec.msb_and, show (BitVec.ofNat 64 (2 ^ 8 - 1)).msb = false from by decide, Bool.and_false]), BitVec.toNat_and]
      have e2 : (BitVec.ofNat 64 (2 ^ 8 - 1)).toNat = 2 ^ 8 - 1 := by decide
      rw [e2, Nat.and_two_pow_sub_one_eq_mod]
      have e3 := Int64.toInt_toBitVec v
      rw [← e3, BitVec.toInt_eq_toNat_cond]
      split <;> omega
    rw [Int64.toInt_toInt32, e]
    apply Int.bmod_eq_of_le <;> omega
  have h1 : (vp_nar .byte (v.toInt32.toInt8.toInt32)).toInt = Int.bmod v.toInt 256 := by
    rw [vp_nar_byte, Int8.toInt_toInt32, Int32.toInt_toInt8, Int8.toInt_toInt32, Int32.toInt_toInt8, Int64.toInt_toInt32]
    rw [Int.bmod_bmod_of_dvd (by decide), Int.bmod_bmod_of_dvd (by decide)]
  have h3 : Int.bmod v.toInt 256 = if v.toInt % 256 < 128 then v.toInt % 256 else v.toInt % 256 - 256 := rfl
  rw [h3] at h1
  unfold Rb
  simp only [Int32.lt_iff_toInt_lt, ← Int32.toInt_inj, show (0 : Int32).toInt = 0 from by decide, show (127 : Int32).toInt = 127 from by decide]
  rw [h1, h2]
  split <;> omega
theorem TpR.feed {T T2 : Nat → Int32} (h : TpR T T2) (e : Int64) (t : Nat) (n : Int32) : TpR (mFeedB (bC e) T t n) (mFeedB (bR e) T2 t n) := by
  unfold mFeedB
  split
  · exact h
  · intro i
    unfold mFd
    split
    · exact byte_rel _
    · exact h i
